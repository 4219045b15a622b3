set_option maxRecDepth 20000 in
theorem ggX0_init_X1_init : GoodIn wsX0_init wsX1_init := goodIn_r _ [13, 14, 2, 3, 15, 16, 17, 18, 19, 26, 27, 28, 29, 30, 31, 32] (by decide +kernel) (by decide +kernel)
set_option maxRecDepth 20000 in
theorem gX0_init_X1_init_n9 : GoodIn wsX0_init (wsX1_init) := ggX0_init_X1_init
set_option maxRecDepth 20000 in
theorem ggX0_init_X5_init : GoodIn wsX0_init wsX5_init := goodIn_r _ [21, 22, 2, 3, 15, 23, 24, 25, 36, 37, 38, 39] (by decide +kernel) (by decide +kernel)
set_option maxRecDepth 20000 in
theorem gX0_init_X5_init_n18 : GoodIn wsX0_init (wsX5_init) := ggX0_init_X5_init
theorem dX0_init_0 : decode cX0_init 0 = .ok (.aload_n 0, 1) := by decide +kernel
theorem dX0_init_1 : decode cX0_init 1 = .ok (.invokespecial 1, 3) := by decide +kernel
theorem dX0_init_4 : decode cX0_init 4 = .ok (.aload_n 0, 1) := by decide +kernel
theorem dX0_init_5 : decode cX0_init 5 = .ok (.new 7, 3) := by decide +kernel
theorem dX0_init_8 : decode cX0_init 8 = .ok (.dup, 1) := by decide +kernel
theorem dX0_init_9 : decode cX0_init 9 = .ok (.invokespecial 9, 3) := by decide +kernel
theorem dX0_init_12 : decode cX0_init 12 = .ok (.putfield 10, 3) := by decide +kernel
theorem dX0_init_15 : decode cX0_init 15 = .ok (.aload_n 0, 1) := by decide +kernel
theorem dX0_init_16 : decode cX0_init 16 = .ok (.new 16, 3) := by decide +kernel
theorem dX0_init_19 : decode cX0_init 19 = .ok (.dup, 1) := by decide +kernel
theorem dX0_init_20 : decode cX0_init 20 = .ok (.invokespecial 18, 3) := by decide +kernel
theorem dX0_init_23 : decode cX0_init 23 = .ok (.putfield 19, 3) := by decide +kernel
theorem dX0_init_26 : decode cX0_init 26 = .ok (.return_, 1) := by decide +kernel
theorem dX1_init_0 : decode cX1_init 0 = .ok (.aload_n 0, 1) := by decide +kernel
theorem dX1_init_1 : decode cX1_init 1 = .ok (.invokespecial 3, 3) := by decide +kernel
theorem dX1_init_4 : decode cX1_init 4 = .ok (.aload_n 0, 1) := by decide +kernel
theorem dX1_init_5 : decode cX1_init 5 = .ok (.iconst 5, 1) := by decide +kernel
theorem dX1_init_6 : decode cX1_init 6 = .ok (.newarray .int, 2) := by decide +kernel
theorem dX1_init_8 : decode cX1_init 8 = .ok (.putfield 9, 3) := by decide +kernel
theorem dX1_init_11 : decode cX1_init 11 = .ok (.aload_n 0, 1) := by decide +kernel
theorem dX1_init_12 : decode cX1_init 12 = .ok (.iconst 5, 1) := by decide +kernel
theorem dX1_init_13 : decode cX1_init 13 = .ok (.newarray .int, 2) := by decide +kernel
theorem dX1_init_15 : decode cX1_init 15 = .ok (.putfield 15, 3) := by decide +kernel
theorem dX1_init_18 : decode cX1_init 18 = .ok (.aload_n 0, 1) := by decide +kernel
theorem dX1_init_19 : decode cX1_init 19 = .ok (.iconst 5, 1) := by decide +kernel
theorem dX1_init_20 : decode cX1_init 20 = .ok (.newarray .int, 2) := by decide +kernel
theorem dX1_init_22 : decode cX1_init 22 = .ok (.putfield 18, 3) := by decide +kernel
theorem dX1_init_25 : decode cX1_init 25 = .ok (.aload_n 0, 1) := by decide +kernel
theorem dX1_init_26 : decode cX1_init 26 = .ok (.bipush 25, 2) := by decide +kernel
theorem dX1_init_28 : decode cX1_init 28 = .ok (.newarray .int, 2) := by decide +kernel
theorem dX1_init_30 : decode cX1_init 30 = .ok (.putfield 21, 3) := by decide +kernel
theorem dX1_init_33 : decode cX1_init 33 = .ok (.return_, 1) := by decide +kernel
set_option maxRecDepth 20000 in
theorem ggX1_empty_J7_fill_53178 : GoodIn wsX1_empty wsJ7_fill_53178 := goodIn_r _ [8] (by decide +kernel) (by decide +kernel)
set_option maxRecDepth 20000 in
theorem gX1_empty_J7_fill_53178 : GoodIn wsX1_empty (va_wsS RX1 34 yJ7_fill_53178 wsJ7_fill_53178) := goodIn_app (goodIn_of _ (by decide +kernel)) ggX1_empty_J7_fill_53178
theorem dX1_empty_0 : decode cX1_empty 0 = .ok (.aload_n 0, 1) := by decide +kernel
theorem dX1_empty_1 : decode cX1_empty 1 = .ok (.iconst 0, 1) := by decide +kernel
theorem dX1_empty_2 : decode cX1_empty 2 = .ok (.putfield 24, 3) := by decide +kernel
theorem dX1_empty_5 : decode cX1_empty 5 = .ok (.aload_n 0, 1) := by decide +kernel
theorem dX1_empty_6 : decode cX1_empty 6 = .ok (.iconst 0, 1) := by decide +kernel
theorem dX1_empty_7 : decode cX1_empty 7 = .ok (.putfield 28, 3) := by decide +kernel
theorem dX1_empty_10 : decode cX1_empty 10 = .ok (.aload_n 0, 1) := by decide +kernel
theorem dX1_empty_11 : decode cX1_empty 11 = .ok (.iconst 0, 1) := by decide +kernel
theorem dX1_empty_12 : decode cX1_empty 12 = .ok (.putfield 31, 3) := by decide +kernel
theorem dX1_empty_15 : decode cX1_empty 15 = .ok (.aload_n 0, 1) := by decide +kernel
theorem dX1_empty_16 : decode cX1_empty 16 = .ok (.getfield 21, 3) := by decide +kernel
theorem dX1_empty_19 : decode cX1_empty 19 = .ok (.iconst 0, 1) := by decide +kernel
theorem dX1_empty_20 : decode cX1_empty 20 = .ok (.invokestatic 34, 3) := by decide +kernel
theorem dX1_empty_23 : decode cX1_empty 23 = .ok (.return_, 1) := by decide +kernel
theorem dX1_become_0 : decode cX1_become 0 = .ok (.aload_n 0, 1) := by decide +kernel
theorem dX1_become_1 : decode cX1_become 1 = .ok (.aload_n 1, 1) := by decide +kernel
theorem dX1_become_2 : decode cX1_become 2 = .ok (.getfield 24, 3) := by decide +kernel
theorem dX1_become_5 : decode cX1_become 5 = .ok (.putfield 24, 3) := by decide +kernel
theorem dX1_become_8 : decode cX1_become 8 = .ok (.aload_n 0, 1) := by decide +kernel
theorem dX1_become_9 : decode cX1_become 9 = .ok (.aload_n 1, 1) := by decide +kernel
theorem dX1_become_10 : decode cX1_become 10 = .ok (.getfield 28, 3) := by decide +kernel
theorem dX1_become_13 : decode cX1_become 13 = .ok (.putfield 28, 3) := by decide +kernel
theorem dX1_become_16 : decode cX1_become 16 = .ok (.aload_n 0, 1) := by decide +kernel
theorem dX1_become_17 : decode cX1_become 17 = .ok (.aload_n 1, 1) := by decide +kernel
theorem dX1_become_18 : decode cX1_become 18 = .ok (.getfield 31, 3) := by decide +kernel
theorem dX1_become_21 : decode cX1_become 21 = .ok (.putfield 31, 3) := by decide +kernel
theorem dX1_become_24 : decode cX1_become 24 = .ok (.aload_n 1, 1) := by decide +kernel
theorem dX1_become_25 : decode cX1_become 25 = .ok (.getfield 9, 3) := by decide +kernel
theorem dX1_become_28 : decode cX1_become 28 = .ok (.iconst 0, 1) := by decide +kernel
theorem dX1_become_29 : decode cX1_become 29 = .ok (.aload_n 0, 1) := by decide +kernel
theorem dX1_become_30 : decode cX1_become 30 = .ok (.getfield 9, 3) := by decide +kernel
theorem dX1_become_33 : decode cX1_become 33 = .ok (.iconst 0, 1) := by decide +kernel
theorem dX1_become_34 : decode cX1_become 34 = .ok (.iconst 5, 1) := by decide +kernel
theorem dX1_become_35 : decode cX1_become 35 = .ok (.invokestatic 40, 3) := by decide +kernel
theorem dX1_become_38 : decode cX1_become 38 = .ok (.aload_n 1, 1) := by decide +kernel
theorem dX1_become_39 : decode cX1_become 39 = .ok (.getfield 15, 3) := by decide +kernel
theorem dX1_become_42 : decode cX1_become 42 = .ok (.iconst 0, 1) := by decide +kernel
theorem dX1_become_43 : decode cX1_become 43 = .ok (.aload_n 0, 1) := by decide +kernel
theorem dX1_become_44 : decode cX1_become 44 = .ok (.getfield 15, 3) := by decide +kernel
theorem dX1_become_47 : decode cX1_become 47 = .ok (.iconst 0, 1) := by decide +kernel
theorem dX1_become_48 : decode cX1_become 48 = .ok (.iconst 5, 1) := by decide +kernel
theorem dX1_become_49 : decode cX1_become 49 = .ok (.invokestatic 40, 3) := by decide +kernel
theorem dX1_become_52 : decode cX1_become 52 = .ok (.aload_n 1, 1) := by decide +kernel
theorem dX1_become_53 : decode cX1_become 53 = .ok (.getfield 18, 3) := by decide +kernel
theorem dX1_become_56 : decode cX1_become 56 = .ok (.iconst 0, 1) := by decide +kernel
theorem dX1_become_57 : decode cX1_become 57 = .ok (.aload_n 0, 1) := by decide +kernel
theorem dX1_become_58 : decode cX1_become 58 = .ok (.getfield 18, 3) := by decide +kernel
theorem dX1_become_61 : decode cX1_become 61 = .ok (.iconst 0, 1) := by decide +kernel
theorem dX1_become_62 : decode cX1_become 62 = .ok (.iconst 5, 1) := by decide +kernel
theorem dX1_become_63 : decode cX1_become 63 = .ok (.invokestatic 40, 3) := by decide +kernel
theorem dX1_become_66 : decode cX1_become 66 = .ok (.aload_n 1, 1) := by decide +kernel
theorem dX1_become_67 : decode cX1_become 67 = .ok (.getfield 21, 3) := by decide +kernel
theorem dX1_become_70 : decode cX1_become 70 = .ok (.iconst 0, 1) := by decide +kernel
theorem dX1_become_71 : decode cX1_become 71 = .ok (.aload_n 0, 1) := by decide +kernel
theorem dX1_become_72 : decode cX1_become 72 = .ok (.getfield 21, 3) := by decide +kernel
theorem dX1_become_75 : decode cX1_become 75 = .ok (.iconst 0, 1) := by decide +kernel
theorem dX1_become_76 : decode cX1_become 76 = .ok (.aload_n 0, 1) := by decide +kernel
theorem dX1_become_77 : decode cX1_become 77 = .ok (.getfield 21, 3) := by decide +kernel
theorem dX1_become_80 : decode cX1_become 80 = .ok (.arraylength, 1) := by decide +kernel
theorem dX1_become_81 : decode cX1_become 81 = .ok (.invokestatic 40, 3) := by decide +kernel
theorem dX1_become_84 : decode cX1_become 84 = .ok (.return_, 1) := by decide +kernel
theorem dX1_has_0 : decode cX1_has 0 = .ok (.iload_n 1, 1) := by decide +kernel
theorem dX1_has_1 : decode cX1_has 1 = .ok (.ifCond .lt 15, 3) := by decide +kernel
theorem dX1_has_4 : decode cX1_has 4 = .ok (.iload_n 1, 1) := by decide +kernel
theorem dX1_has_5 : decode cX1_has 5 = .ok (.aload_n 0, 1) := by decide +kernel
theorem dX1_has_6 : decode cX1_has 6 = .ok (.getfield 24, 3) := by decide +kernel
theorem dX1_has_9 : decode cX1_has 9 = .ok (.if_icmp .ge 7, 3) := by decide +kernel
theorem dX1_has_12 : decode cX1_has 12 = .ok (.iconst 1, 1) := by decide +kernel
theorem dX1_has_13 : decode cX1_has 13 = .ok (.goto 4, 3) := by decide +kernel
theorem dX1_has_16 : decode cX1_has 16 = .ok (.iconst 0, 1) := by decide +kernel
theorem dX1_has_17 : decode cX1_has 17 = .ok (.ireturn, 1) := by decide +kernel
set_option maxRecDepth 20000 in
theorem ggX1_hasPair_X1_has : GoodIn wsX1_hasPair wsX1_has := goodIn_r _ [5, 6, 7, 8, 9, 10, 11, 12, 13] (by decide +kernel) (by decide +kernel)
set_option maxRecDepth 20000 in
theorem gX1_hasPair_X1_has : GoodIn wsX1_hasPair (wsV RX1 46 RX1 yX1_has wsX1_has) := goodIn_app (goodIn_of _ (by decide +kernel)) ggX1_hasPair_X1_has
theorem dX1_hasPair_0 : decode cX1_hasPair 0 = .ok (.aload_n 0, 1) := by decide +kernel
theorem dX1_hasPair_1 : decode cX1_hasPair 1 = .ok (.iload_n 1, 1) := by decide +kernel
theorem dX1_hasPair_2 : decode cX1_hasPair 2 = .ok (.invokevirtual 46, 3) := by decide +kernel
theorem dX1_hasPair_5 : decode cX1_hasPair 5 = .ok (.ifCond .eq 20, 3) := by decide +kernel
theorem dX1_hasPair_8 : decode cX1_hasPair 8 = .ok (.aload_n 0, 1) := by decide +kernel
theorem dX1_hasPair_9 : decode cX1_hasPair 9 = .ok (.iload_n 2, 1) := by decide +kernel
theorem dX1_hasPair_10 : decode cX1_hasPair 10 = .ok (.invokevirtual 46, 3) := by decide +kernel
theorem dX1_hasPair_13 : decode cX1_hasPair 13 = .ok (.ifCond .eq 12, 3) := by decide +kernel
theorem dX1_hasPair_16 : decode cX1_hasPair 16 = .ok (.iload_n 1, 1) := by decide +kernel
theorem dX1_hasPair_17 : decode cX1_hasPair 17 = .ok (.iload_n 2, 1) := by decide +kernel
theorem dX1_hasPair_18 : decode cX1_hasPair 18 = .ok (.if_icmp .eq 7, 3) := by decide +kernel
theorem dX1_hasPair_21 : decode cX1_hasPair 21 = .ok (.iconst 1, 1) := by decide +kernel
theorem dX1_hasPair_22 : decode cX1_hasPair 22 = .ok (.goto 4, 3) := by decide +kernel
theorem dX1_hasPair_25 : decode cX1_hasPair 25 = .ok (.iconst 0, 1) := by decide +kernel
theorem dX1_hasPair_26 : decode cX1_hasPair 26 = .ok (.ireturn, 1) := by decide +kernel
theorem dX1_debt_0 : decode cX1_debt 0 = .ok (.aload_n 0, 1) := by decide +kernel
theorem dX1_debt_1 : decode cX1_debt 1 = .ok (.getfield 21, 3) := by decide +kernel
theorem dX1_debt_4 : decode cX1_debt 4 = .ok (.iload_n 1, 1) := by decide +kernel
theorem dX1_debt_5 : decode cX1_debt 5 = .ok (.iconst 5, 1) := by decide +kernel
theorem dX1_debt_6 : decode cX1_debt 6 = .ok (.imul, 1) := by decide +kernel
theorem dX1_debt_7 : decode cX1_debt 7 = .ok (.iload_n 2, 1) := by decide +kernel
theorem dX1_debt_8 : decode cX1_debt 8 = .ok (.iadd, 1) := by decide +kernel
theorem dX1_debt_9 : decode cX1_debt 9 = .ok (.iaload, 1) := by decide +kernel
theorem dX1_debt_10 : decode cX1_debt 10 = .ok (.ireturn, 1) := by decide +kernel
theorem dX1_setDebt_0 : decode cX1_setDebt 0 = .ok (.aload_n 0, 1) := by decide +kernel
theorem dX1_setDebt_1 : decode cX1_setDebt 1 = .ok (.getfield 21, 3) := by decide +kernel
theorem dX1_setDebt_4 : decode cX1_setDebt 4 = .ok (.iload_n 1, 1) := by decide +kernel
theorem dX1_setDebt_5 : decode cX1_setDebt 5 = .ok (.iconst 5, 1) := by decide +kernel
theorem dX1_setDebt_6 : decode cX1_setDebt 6 = .ok (.imul, 1) := by decide +kernel
theorem dX1_setDebt_7 : decode cX1_setDebt 7 = .ok (.iload_n 2, 1) := by decide +kernel
theorem dX1_setDebt_8 : decode cX1_setDebt 8 = .ok (.iadd, 1) := by decide +kernel
theorem dX1_setDebt_9 : decode cX1_setDebt 9 = .ok (.iload_n 3, 1) := by decide +kernel
theorem dX1_setDebt_10 : decode cX1_setDebt 10 = .ok (.iastore, 1) := by decide +kernel
theorem dX1_setDebt_11 : decode cX1_setDebt 11 = .ok (.return_, 1) := by decide +kernel
theorem dX1_owedBy_0 : decode cX1_owedBy 0 = .ok (.iconst 0, 1) := by decide +kernel
theorem dX1_owedBy_1 : decode cX1_owedBy 1 = .ok (.istore_n 2, 1) := by decide +kernel
theorem dX1_owedBy_2 : decode cX1_owedBy 2 = .ok (.iconst 0, 1) := by decide +kernel
theorem dX1_owedBy_3 : decode cX1_owedBy 3 = .ok (.istore_n 3, 1) := by decide +kernel
theorem dX1_owedBy_4 : decode cX1_owedBy 4 = .ok (.iload_n 3, 1) := by decide +kernel
theorem dX1_owedBy_5 : decode cX1_owedBy 5 = .ok (.aload_n 0, 1) := by decide +kernel
theorem dX1_owedBy_6 : decode cX1_owedBy 6 = .ok (.getfield 24, 3) := by decide +kernel
theorem dX1_owedBy_9 : decode cX1_owedBy 9 = .ok (.if_icmp .ge 22, 3) := by decide +kernel
theorem dX1_owedBy_12 : decode cX1_owedBy 12 = .ok (.iload_n 2, 1) := by decide +kernel
theorem dX1_owedBy_13 : decode cX1_owedBy 13 = .ok (.aload_n 0, 1) := by decide +kernel
theorem dX1_owedBy_14 : decode cX1_owedBy 14 = .ok (.getfield 21, 3) := by decide +kernel
theorem dX1_owedBy_17 : decode cX1_owedBy 17 = .ok (.iload_n 1, 1) := by decide +kernel
theorem dX1_owedBy_18 : decode cX1_owedBy 18 = .ok (.iconst 5, 1) := by decide +kernel
theorem dX1_owedBy_19 : decode cX1_owedBy 19 = .ok (.imul, 1) := by decide +kernel
theorem dX1_owedBy_20 : decode cX1_owedBy 20 = .ok (.iload_n 3, 1) := by decide +kernel
theorem dX1_owedBy_21 : decode cX1_owedBy 21 = .ok (.iadd, 1) := by decide +kernel
theorem dX1_owedBy_22 : decode cX1_owedBy 22 = .ok (.iaload, 1) := by decide +kernel
theorem dX1_owedBy_23 : decode cX1_owedBy 23 = .ok (.iadd, 1) := by decide +kernel
theorem dX1_owedBy_24 : decode cX1_owedBy 24 = .ok (.istore_n 2, 1) := by decide +kernel
theorem dX1_owedBy_25 : decode cX1_owedBy 25 = .ok (.iinc 3 1, 3) := by decide +kernel
theorem dX1_owedBy_28 : decode cX1_owedBy 28 = .ok (.goto (-24), 3) := by decide +kernel
theorem dX1_owedBy_31 : decode cX1_owedBy 31 = .ok (.iload_n 2, 1) := by decide +kernel
theorem dX1_owedBy_32 : decode cX1_owedBy 32 = .ok (.ireturn, 1) := by decide +kernel
theorem dX1_owedTo_0 : decode cX1_owedTo 0 = .ok (.iconst 0, 1) := by decide +kernel
theorem dX1_owedTo_1 : decode cX1_owedTo 1 = .ok (.istore_n 2, 1) := by decide +kernel
theorem dX1_owedTo_2 : decode cX1_owedTo 2 = .ok (.iconst 0, 1) := by decide +kernel
theorem dX1_owedTo_3 : decode cX1_owedTo 3 = .ok (.istore_n 3, 1) := by decide +kernel
theorem dX1_owedTo_4 : decode cX1_owedTo 4 = .ok (.iload_n 3, 1) := by decide +kernel
theorem dX1_owedTo_5 : decode cX1_owedTo 5 = .ok (.aload_n 0, 1) := by decide +kernel
theorem dX1_owedTo_6 : decode cX1_owedTo 6 = .ok (.getfield 24, 3) := by decide +kernel
theorem dX1_owedTo_9 : decode cX1_owedTo 9 = .ok (.if_icmp .ge 22, 3) := by decide +kernel
theorem dX1_owedTo_12 : decode cX1_owedTo 12 = .ok (.iload_n 2, 1) := by decide +kernel
theorem dX1_owedTo_13 : decode cX1_owedTo 13 = .ok (.aload_n 0, 1) := by decide +kernel
theorem dX1_owedTo_14 : decode cX1_owedTo 14 = .ok (.getfield 21, 3) := by decide +kernel
theorem dX1_owedTo_17 : decode cX1_owedTo 17 = .ok (.iload_n 3, 1) := by decide +kernel
theorem dX1_owedTo_18 : decode cX1_owedTo 18 = .ok (.iconst 5, 1) := by decide +kernel
theorem dX1_owedTo_19 : decode cX1_owedTo 19 = .ok (.imul, 1) := by decide +kernel
theorem dX1_owedTo_20 : decode cX1_owedTo 20 = .ok (.iload_n 1, 1) := by decide +kernel
theorem dX1_owedTo_21 : decode cX1_owedTo 21 = .ok (.iadd, 1) := by decide +kernel
theorem dX1_owedTo_22 : decode cX1_owedTo 22 = .ok (.iaload, 1) := by decide +kernel
theorem dX1_owedTo_23 : decode cX1_owedTo 23 = .ok (.iadd, 1) := by decide +kernel
theorem dX1_owedTo_24 : decode cX1_owedTo 24 = .ok (.istore_n 2, 1) := by decide +kernel
theorem dX1_owedTo_25 : decode cX1_owedTo 25 = .ok (.iinc 3 1, 3) := by decide +kernel
theorem dX1_owedTo_28 : decode cX1_owedTo 28 = .ok (.goto (-24), 3) := by decide +kernel
theorem dX1_owedTo_31 : decode cX1_owedTo 31 = .ok (.iload_n 2, 1) := by decide +kernel
theorem dX1_owedTo_32 : decode cX1_owedTo 32 = .ok (.ireturn, 1) := by decide +kernel
set_option maxRecDepth 20000 in
theorem ggX1_netOf_X1_owedBy : GoodIn wsX1_netOf wsX1_owedBy := goodIn_r _ [5, 6, 7, 12, 13, 14, 15, 16, 17, 18] (by decide +kernel) (by decide +kernel)
set_option maxRecDepth 20000 in
theorem gX1_netOf_X1_owedBy : GoodIn wsX1_netOf (wsV RX1 50 RX1 yX1_owedBy wsX1_owedBy) := goodIn_app (goodIn_of _ (by decide +kernel)) ggX1_netOf_X1_owedBy
set_option maxRecDepth 20000 in
theorem ggX1_netOf_X1_owedTo : GoodIn wsX1_netOf wsX1_owedTo := goodIn_r _ [11, 6, 7, 12, 13, 14, 15, 16, 17, 18] (by decide +kernel) (by decide +kernel)
set_option maxRecDepth 20000 in
theorem gX1_netOf_X1_owedTo : GoodIn wsX1_netOf (wsV RX1 54 RX1 yX1_owedTo wsX1_owedTo) := goodIn_app (goodIn_of _ (by decide +kernel)) ggX1_netOf_X1_owedTo
theorem dX1_netOf_0 : decode cX1_netOf 0 = .ok (.aload_n 0, 1) := by decide +kernel
theorem dX1_netOf_1 : decode cX1_netOf 1 = .ok (.iload_n 1, 1) := by decide +kernel
theorem dX1_netOf_2 : decode cX1_netOf 2 = .ok (.invokevirtual 50, 3) := by decide +kernel
theorem dX1_netOf_5 : decode cX1_netOf 5 = .ok (.aload_n 0, 1) := by decide +kernel
theorem dX1_netOf_6 : decode cX1_netOf 6 = .ok (.iload_n 1, 1) := by decide +kernel
theorem dX1_netOf_7 : decode cX1_netOf 7 = .ok (.invokevirtual 54, 3) := by decide +kernel
theorem dX1_netOf_10 : decode cX1_netOf 10 = .ok (.isub, 1) := by decide +kernel
theorem dX1_netOf_11 : decode cX1_netOf 11 = .ok (.ireturn, 1) := by decide +kernel
set_option maxRecDepth 20000 in
theorem ggX1_owedInAll_X1_owedBy : GoodIn wsX1_owedInAll wsX1_owedBy := goodIn_r _ [6, 1, 7, 8, 9, 10, 11, 12, 13, 14] (by decide +kernel) (by decide +kernel)
set_option maxRecDepth 20000 in
theorem gX1_owedInAll_X1_owedBy : GoodIn wsX1_owedInAll (wsV RX1 50 RX1 yX1_owedBy wsX1_owedBy) := goodIn_app (goodIn_of _ (by decide +kernel)) ggX1_owedInAll_X1_owedBy
theorem dX1_owedInAll_0 : decode cX1_owedInAll 0 = .ok (.iconst 0, 1) := by decide +kernel
theorem dX1_owedInAll_1 : decode cX1_owedInAll 1 = .ok (.istore_n 1, 1) := by decide +kernel
theorem dX1_owedInAll_2 : decode cX1_owedInAll 2 = .ok (.iconst 0, 1) := by decide +kernel
theorem dX1_owedInAll_3 : decode cX1_owedInAll 3 = .ok (.istore_n 2, 1) := by decide +kernel
theorem dX1_owedInAll_4 : decode cX1_owedInAll 4 = .ok (.iload_n 2, 1) := by decide +kernel
theorem dX1_owedInAll_5 : decode cX1_owedInAll 5 = .ok (.aload_n 0, 1) := by decide +kernel
theorem dX1_owedInAll_6 : decode cX1_owedInAll 6 = .ok (.getfield 24, 3) := by decide +kernel
theorem dX1_owedInAll_9 : decode cX1_owedInAll 9 = .ok (.if_icmp .ge 17, 3) := by decide +kernel
theorem dX1_owedInAll_12 : decode cX1_owedInAll 12 = .ok (.iload_n 1, 1) := by decide +kernel
theorem dX1_owedInAll_13 : decode cX1_owedInAll 13 = .ok (.aload_n 0, 1) := by decide +kernel
theorem dX1_owedInAll_14 : decode cX1_owedInAll 14 = .ok (.iload_n 2, 1) := by decide +kernel
theorem dX1_owedInAll_15 : decode cX1_owedInAll 15 = .ok (.invokevirtual 50, 3) := by decide +kernel
theorem dX1_owedInAll_18 : decode cX1_owedInAll 18 = .ok (.iadd, 1) := by decide +kernel
theorem dX1_owedInAll_19 : decode cX1_owedInAll 19 = .ok (.istore_n 1, 1) := by decide +kernel
theorem dX1_owedInAll_20 : decode cX1_owedInAll 20 = .ok (.iinc 2 1, 3) := by decide +kernel
theorem dX1_owedInAll_23 : decode cX1_owedInAll 23 = .ok (.goto (-19), 3) := by decide +kernel
theorem dX1_owedInAll_26 : decode cX1_owedInAll 26 = .ok (.iload_n 1, 1) := by decide +kernel
theorem dX1_owedInAll_27 : decode cX1_owedInAll 27 = .ok (.ireturn, 1) := by decide +kernel
theorem dX1_debtsInAll_0 : decode cX1_debtsInAll 0 = .ok (.iconst 0, 1) := by decide +kernel
theorem dX1_debtsInAll_1 : decode cX1_debtsInAll 1 = .ok (.istore_n 1, 1) := by decide +kernel
theorem dX1_debtsInAll_2 : decode cX1_debtsInAll 2 = .ok (.iconst 0, 1) := by decide +kernel
theorem dX1_debtsInAll_3 : decode cX1_debtsInAll 3 = .ok (.istore_n 2, 1) := by decide +kernel
theorem dX1_debtsInAll_4 : decode cX1_debtsInAll 4 = .ok (.iload_n 2, 1) := by decide +kernel
theorem dX1_debtsInAll_5 : decode cX1_debtsInAll 5 = .ok (.aload_n 0, 1) := by decide +kernel
theorem dX1_debtsInAll_6 : decode cX1_debtsInAll 6 = .ok (.getfield 21, 3) := by decide +kernel
theorem dX1_debtsInAll_9 : decode cX1_debtsInAll 9 = .ok (.arraylength, 1) := by decide +kernel
theorem dX1_debtsInAll_10 : decode cX1_debtsInAll 10 = .ok (.if_icmp .ge 21, 3) := by decide +kernel
theorem dX1_debtsInAll_13 : decode cX1_debtsInAll 13 = .ok (.aload_n 0, 1) := by decide +kernel
theorem dX1_debtsInAll_14 : decode cX1_debtsInAll 14 = .ok (.getfield 21, 3) := by decide +kernel
theorem dX1_debtsInAll_17 : decode cX1_debtsInAll 17 = .ok (.iload_n 2, 1) := by decide +kernel
theorem dX1_debtsInAll_18 : decode cX1_debtsInAll 18 = .ok (.iaload, 1) := by decide +kernel
theorem dX1_debtsInAll_19 : decode cX1_debtsInAll 19 = .ok (.ifCond .le 6, 3) := by decide +kernel
theorem dX1_debtsInAll_22 : decode cX1_debtsInAll 22 = .ok (.iinc 1 1, 3) := by decide +kernel
theorem dX1_debtsInAll_25 : decode cX1_debtsInAll 25 = .ok (.iinc 2 1, 3) := by decide +kernel
theorem dX1_debtsInAll_28 : decode cX1_debtsInAll 28 = .ok (.goto (-24), 3) := by decide +kernel
theorem dX1_debtsInAll_31 : decode cX1_debtsInAll 31 = .ok (.iload_n 1, 1) := by decide +kernel
theorem dX1_debtsInAll_32 : decode cX1_debtsInAll 32 = .ok (.ireturn, 1) := by decide +kernel
theorem dX1_moneyInAll_0 : decode cX1_moneyInAll 0 = .ok (.iconst 0, 1) := by decide +kernel
theorem dX1_moneyInAll_1 : decode cX1_moneyInAll 1 = .ok (.istore_n 1, 1) := by decide +kernel
theorem dX1_moneyInAll_2 : decode cX1_moneyInAll 2 = .ok (.iconst 0, 1) := by decide +kernel
theorem dX1_moneyInAll_3 : decode cX1_moneyInAll 3 = .ok (.istore_n 2, 1) := by decide +kernel
theorem dX1_moneyInAll_4 : decode cX1_moneyInAll 4 = .ok (.iload_n 2, 1) := by decide +kernel
theorem dX1_moneyInAll_5 : decode cX1_moneyInAll 5 = .ok (.aload_n 0, 1) := by decide +kernel
theorem dX1_moneyInAll_6 : decode cX1_moneyInAll 6 = .ok (.getfield 24, 3) := by decide +kernel
theorem dX1_moneyInAll_9 : decode cX1_moneyInAll 9 = .ok (.if_icmp .ge 18, 3) := by decide +kernel
theorem dX1_moneyInAll_12 : decode cX1_moneyInAll 12 = .ok (.iload_n 1, 1) := by decide +kernel
theorem dX1_moneyInAll_13 : decode cX1_moneyInAll 13 = .ok (.aload_n 0, 1) := by decide +kernel
theorem dX1_moneyInAll_14 : decode cX1_moneyInAll 14 = .ok (.getfield 15, 3) := by decide +kernel
theorem dX1_moneyInAll_17 : decode cX1_moneyInAll 17 = .ok (.iload_n 2, 1) := by decide +kernel
theorem dX1_moneyInAll_18 : decode cX1_moneyInAll 18 = .ok (.iaload, 1) := by decide +kernel
theorem dX1_moneyInAll_19 : decode cX1_moneyInAll 19 = .ok (.iadd, 1) := by decide +kernel
theorem dX1_moneyInAll_20 : decode cX1_moneyInAll 20 = .ok (.istore_n 1, 1) := by decide +kernel
theorem dX1_moneyInAll_21 : decode cX1_moneyInAll 21 = .ok (.iinc 2 1, 3) := by decide +kernel
theorem dX1_moneyInAll_24 : decode cX1_moneyInAll 24 = .ok (.goto (-20), 3) := by decide +kernel
theorem dX1_moneyInAll_27 : decode cX1_moneyInAll 27 = .ok (.iload_n 1, 1) := by decide +kernel
theorem dX1_moneyInAll_28 : decode cX1_moneyInAll 28 = .ok (.ireturn, 1) := by decide +kernel
set_option maxRecDepth 20000 in
theorem ggX1_isRiding_X1_owedBy : GoodIn wsX1_isRiding wsX1_owedBy := goodIn_r _ [5, 6, 7, 8, 9, 10, 11, 12, 13, 14] (by decide +kernel) (by decide +kernel)
set_option maxRecDepth 20000 in
theorem gX1_isRiding_X1_owedBy : GoodIn wsX1_isRiding (wsV RX1 50 RX1 yX1_owedBy wsX1_owedBy) := goodIn_app (goodIn_of _ (by decide +kernel)) ggX1_isRiding_X1_owedBy
theorem dX1_isRiding_0 : decode cX1_isRiding 0 = .ok (.aload_n 0, 1) := by decide +kernel
theorem dX1_isRiding_1 : decode cX1_isRiding 1 = .ok (.iload_n 1, 1) := by decide +kernel
theorem dX1_isRiding_2 : decode cX1_isRiding 2 = .ok (.invokevirtual 50, 3) := by decide +kernel
theorem dX1_isRiding_5 : decode cX1_isRiding 5 = .ok (.ifCond .ne 7, 3) := by decide +kernel
theorem dX1_isRiding_8 : decode cX1_isRiding 8 = .ok (.iconst 1, 1) := by decide +kernel
theorem dX1_isRiding_9 : decode cX1_isRiding 9 = .ok (.goto 4, 3) := by decide +kernel
theorem dX1_isRiding_12 : decode cX1_isRiding 12 = .ok (.iconst 0, 1) := by decide +kernel
theorem dX1_isRiding_13 : decode cX1_isRiding 13 = .ok (.ireturn, 1) := by decide +kernel
set_option maxRecDepth 20000 in
theorem ggX1_riders_X1_isRiding : GoodIn wsX1_riders wsX1_isRiding := goodIn_r _ [6, 7, 8, 9, 5, 10, 1, 11, 12, 13, 14, 15, 16, 17, 18] (by decide +kernel) (by decide +kernel)
set_option maxRecDepth 20000 in
theorem gX1_riders_X1_isRiding : GoodIn wsX1_riders (wsV RX1 57 RX1 yX1_isRiding wsX1_isRiding) := goodIn_app (goodIn_of _ (by decide +kernel)) ggX1_riders_X1_isRiding
theorem dX1_riders_0 : decode cX1_riders 0 = .ok (.iconst 0, 1) := by decide +kernel
theorem dX1_riders_1 : decode cX1_riders 1 = .ok (.istore_n 1, 1) := by decide +kernel
theorem dX1_riders_2 : decode cX1_riders 2 = .ok (.iconst 0, 1) := by decide +kernel
theorem dX1_riders_3 : decode cX1_riders 3 = .ok (.istore_n 2, 1) := by decide +kernel
theorem dX1_riders_4 : decode cX1_riders 4 = .ok (.iload_n 2, 1) := by decide +kernel
theorem dX1_riders_5 : decode cX1_riders 5 = .ok (.aload_n 0, 1) := by decide +kernel
theorem dX1_riders_6 : decode cX1_riders 6 = .ok (.getfield 24, 3) := by decide +kernel
theorem dX1_riders_9 : decode cX1_riders 9 = .ok (.if_icmp .ge 23, 3) := by decide +kernel
theorem dX1_riders_12 : decode cX1_riders 12 = .ok (.aload_n 0, 1) := by decide +kernel
theorem dX1_riders_13 : decode cX1_riders 13 = .ok (.iload_n 2, 1) := by decide +kernel
theorem dX1_riders_14 : decode cX1_riders 14 = .ok (.invokevirtual 57, 3) := by decide +kernel
theorem dX1_riders_17 : decode cX1_riders 17 = .ok (.ifCond .eq 9, 3) := by decide +kernel
theorem dX1_riders_20 : decode cX1_riders 20 = .ok (.iload_n 1, 1) := by decide +kernel
theorem dX1_riders_21 : decode cX1_riders 21 = .ok (.iconst 1, 1) := by decide +kernel
theorem dX1_riders_22 : decode cX1_riders 22 = .ok (.iload_n 2, 1) := by decide +kernel
theorem dX1_riders_23 : decode cX1_riders 23 = .ok (.ishl, 1) := by decide +kernel
theorem dX1_riders_24 : decode cX1_riders 24 = .ok (.ior, 1) := by decide +kernel
theorem dX1_riders_25 : decode cX1_riders 25 = .ok (.istore_n 1, 1) := by decide +kernel
theorem dX1_riders_26 : decode cX1_riders 26 = .ok (.iinc 2 1, 3) := by decide +kernel
theorem dX1_riders_29 : decode cX1_riders 29 = .ok (.goto (-25), 3) := by decide +kernel
theorem dX1_riders_32 : decode cX1_riders 32 = .ok (.iload_n 1, 1) := by decide +kernel
theorem dX1_riders_33 : decode cX1_riders 33 = .ok (.ireturn, 1) := by decide +kernel
set_option maxRecDepth 20000 in
theorem ggX1_heightOf_X1_isRiding : GoodIn wsX1_heightOf wsX1_isRiding := goodIn_r _ [10, 11, 12, 13, 9, 14, 15, 16, 21, 22, 23, 24, 25, 26, 27] (by decide +kernel) (by decide +kernel)
set_option maxRecDepth 20000 in
theorem gX1_heightOf_X1_isRiding : GoodIn wsX1_heightOf (wsV RX1 57 RX1 yX1_isRiding wsX1_isRiding) := goodIn_app (goodIn_of _ (by decide +kernel)) ggX1_heightOf_X1_isRiding
set_option maxRecDepth 20000 in
theorem ggX1_heightOf_X1_owedTo : GoodIn wsX1_heightOf wsX1_owedTo := goodIn_r _ [20, 15, 16, 21, 22, 23, 24, 25, 26, 27] (by decide +kernel) (by decide +kernel)
set_option maxRecDepth 20000 in
theorem gX1_heightOf_X1_owedTo : GoodIn wsX1_heightOf (wsV RX1 54 RX1 yX1_owedTo wsX1_owedTo) := goodIn_app (goodIn_of _ (by decide +kernel)) ggX1_heightOf_X1_owedTo
theorem dX1_heightOf_0 : decode cX1_heightOf 0 = .ok (.aload_n 0, 1) := by decide +kernel
theorem dX1_heightOf_1 : decode cX1_heightOf 1 = .ok (.iload_n 1, 1) := by decide +kernel
theorem dX1_heightOf_2 : decode cX1_heightOf 2 = .ok (.invokevirtual 57, 3) := by decide +kernel
theorem dX1_heightOf_5 : decode cX1_heightOf 5 = .ok (.ifCond .ne 5, 3) := by decide +kernel
theorem dX1_heightOf_8 : decode cX1_heightOf 8 = .ok (.iconst 0, 1) := by decide +kernel
theorem dX1_heightOf_9 : decode cX1_heightOf 9 = .ok (.ireturn, 1) := by decide +kernel
theorem dX1_heightOf_10 : decode cX1_heightOf 10 = .ok (.aload_n 0, 1) := by decide +kernel
theorem dX1_heightOf_11 : decode cX1_heightOf 11 = .ok (.iload_n 1, 1) := by decide +kernel
theorem dX1_heightOf_12 : decode cX1_heightOf 12 = .ok (.invokevirtual 54, 3) := by decide +kernel
theorem dX1_heightOf_15 : decode cX1_heightOf 15 = .ok (.istore_n 2, 1) := by decide +kernel
theorem dX1_heightOf_16 : decode cX1_heightOf 16 = .ok (.iload_n 2, 1) := by decide +kernel
theorem dX1_heightOf_17 : decode cX1_heightOf 17 = .ok (.iconst 1, 1) := by decide +kernel
theorem dX1_heightOf_18 : decode cX1_heightOf 18 = .ok (.iadd, 1) := by decide +kernel
theorem dX1_heightOf_19 : decode cX1_heightOf 19 = .ok (.iconst 2, 1) := by decide +kernel
theorem dX1_heightOf_20 : decode cX1_heightOf 20 = .ok (.idiv, 1) := by decide +kernel
theorem dX1_heightOf_21 : decode cX1_heightOf 21 = .ok (.istore_n 3, 1) := by decide +kernel
theorem dX1_heightOf_22 : decode cX1_heightOf 22 = .ok (.aload_n 0, 1) := by decide +kernel
theorem dX1_heightOf_23 : decode cX1_heightOf 23 = .ok (.getfield 9, 3) := by decide +kernel
theorem dX1_heightOf_26 : decode cX1_heightOf 26 = .ok (.iload_n 1, 1) := by decide +kernel
theorem dX1_heightOf_27 : decode cX1_heightOf 27 = .ok (.iaload, 1) := by decide +kernel
theorem dX1_heightOf_28 : decode cX1_heightOf 28 = .ok (.tableswitch 38 0 2 #[28, 30, 32], 28) := by decide +kernel
theorem dX1_heightOf_56 : decode cX1_heightOf 56 = .ok (.iload_n 2, 1) := by decide +kernel
theorem dX1_heightOf_57 : decode cX1_heightOf 57 = .ok (.ireturn, 1) := by decide +kernel
theorem dX1_heightOf_58 : decode cX1_heightOf 58 = .ok (.iload_n 3, 1) := by decide +kernel
theorem dX1_heightOf_59 : decode cX1_heightOf 59 = .ok (.ireturn, 1) := by decide +kernel
theorem dX1_heightOf_60 : decode cX1_heightOf 60 = .ok (.iconst 2, 1) := by decide +kernel
theorem dX1_heightOf_61 : decode cX1_heightOf 61 = .ok (.iload_n 2, 1) := by decide +kernel
theorem dX1_heightOf_62 : decode cX1_heightOf 62 = .ok (.imul, 1) := by decide +kernel
theorem dX1_heightOf_63 : decode cX1_heightOf 63 = .ok (.iconst 1, 1) := by decide +kernel
theorem dX1_heightOf_64 : decode cX1_heightOf 64 = .ok (.iadd, 1) := by decide +kernel
theorem dX1_heightOf_65 : decode cX1_heightOf 65 = .ok (.ireturn, 1) := by decide +kernel
theorem dX1_heightOf_66 : decode cX1_heightOf 66 = .ok (.iconst 0, 1) := by decide +kernel
theorem dX1_heightOf_67 : decode cX1_heightOf 67 = .ok (.iload_n 3, 1) := by decide +kernel
theorem dX1_heightOf_68 : decode cX1_heightOf 68 = .ok (.iconst 1, 1) := by decide +kernel
theorem dX1_heightOf_69 : decode cX1_heightOf 69 = .ok (.isub, 1) := by decide +kernel
theorem dX1_heightOf_70 : decode cX1_heightOf 70 = .ok (.invokestatic 60, 3) := by decide +kernel
theorem dX1_heightOf_73 : decode cX1_heightOf 73 = .ok (.ireturn, 1) := by decide +kernel
set_option maxRecDepth 20000 in
theorem ggX1_willOf_X1_owedBy : GoodIn wsX1_willOf wsX1_owedBy := goodIn_r _ [7, 8, 9, 10, 11, 12, 13, 14, 15, 16] (by decide +kernel) (by decide +kernel)
set_option maxRecDepth 20000 in
theorem gX1_willOf_X1_owedBy : GoodIn wsX1_willOf (wsV RX1 50 RX1 yX1_owedBy wsX1_owedBy) := goodIn_app (goodIn_of _ (by decide +kernel)) ggX1_willOf_X1_owedBy
theorem dX1_willOf_0 : decode cX1_willOf 0 = .ok (.aload_n 0, 1) := by decide +kernel
theorem dX1_willOf_1 : decode cX1_willOf 1 = .ok (.getfield 9, 3) := by decide +kernel
theorem dX1_willOf_4 : decode cX1_willOf 4 = .ok (.iload_n 1, 1) := by decide +kernel
theorem dX1_willOf_5 : decode cX1_willOf 5 = .ok (.iaload, 1) := by decide +kernel
theorem dX1_willOf_6 : decode cX1_willOf 6 = .ok (.tableswitch 51 0 2 #[26, 33, 42], 26) := by decide +kernel
theorem dX1_willOf_32 : decode cX1_willOf 32 = .ok (.aload_n 0, 1) := by decide +kernel
theorem dX1_willOf_33 : decode cX1_willOf 33 = .ok (.getfield 15, 3) := by decide +kernel
theorem dX1_willOf_36 : decode cX1_willOf 36 = .ok (.iload_n 1, 1) := by decide +kernel
theorem dX1_willOf_37 : decode cX1_willOf 37 = .ok (.iaload, 1) := by decide +kernel
theorem dX1_willOf_38 : decode cX1_willOf 38 = .ok (.ireturn, 1) := by decide +kernel
theorem dX1_willOf_39 : decode cX1_willOf 39 = .ok (.aload_n 0, 1) := by decide +kernel
theorem dX1_willOf_40 : decode cX1_willOf 40 = .ok (.getfield 15, 3) := by decide +kernel
theorem dX1_willOf_43 : decode cX1_willOf 43 = .ok (.iload_n 1, 1) := by decide +kernel
theorem dX1_willOf_44 : decode cX1_willOf 44 = .ok (.iaload, 1) := by decide +kernel
theorem dX1_willOf_45 : decode cX1_willOf 45 = .ok (.iconst 2, 1) := by decide +kernel
theorem dX1_willOf_46 : decode cX1_willOf 46 = .ok (.idiv, 1) := by decide +kernel
theorem dX1_willOf_47 : decode cX1_willOf 47 = .ok (.ireturn, 1) := by decide +kernel
theorem dX1_willOf_48 : decode cX1_willOf 48 = .ok (.aload_n 0, 1) := by decide +kernel
theorem dX1_willOf_49 : decode cX1_willOf 49 = .ok (.getfield 15, 3) := by decide +kernel
theorem dX1_willOf_52 : decode cX1_willOf 52 = .ok (.iload_n 1, 1) := by decide +kernel
theorem dX1_willOf_53 : decode cX1_willOf 53 = .ok (.iaload, 1) := by decide +kernel
theorem dX1_willOf_54 : decode cX1_willOf 54 = .ok (.iconst 4, 1) := by decide +kernel
theorem dX1_willOf_55 : decode cX1_willOf 55 = .ok (.idiv, 1) := by decide +kernel
theorem dX1_willOf_56 : decode cX1_willOf 56 = .ok (.ireturn, 1) := by decide +kernel
theorem dX1_willOf_57 : decode cX1_willOf 57 = .ok (.aload_n 0, 1) := by decide +kernel
theorem dX1_willOf_58 : decode cX1_willOf 58 = .ok (.iload_n 1, 1) := by decide +kernel
theorem dX1_willOf_59 : decode cX1_willOf 59 = .ok (.invokevirtual 50, 3) := by decide +kernel
theorem dX1_willOf_62 : decode cX1_willOf 62 = .ok (.bipush 10, 2) := by decide +kernel
theorem dX1_willOf_64 : decode cX1_willOf 64 = .ok (.if_icmp .lt 14, 3) := by decide +kernel
theorem dX1_willOf_67 : decode cX1_willOf 67 = .ok (.aload_n 0, 1) := by decide +kernel
theorem dX1_willOf_68 : decode cX1_willOf 68 = .ok (.getfield 15, 3) := by decide +kernel
theorem dX1_willOf_71 : decode cX1_willOf 71 = .ok (.iload_n 1, 1) := by decide +kernel
theorem dX1_willOf_72 : decode cX1_willOf 72 = .ok (.iaload, 1) := by decide +kernel
theorem dX1_willOf_73 : decode cX1_willOf 73 = .ok (.iconst 2, 1) := by decide +kernel
theorem dX1_willOf_74 : decode cX1_willOf 74 = .ok (.idiv, 1) := by decide +kernel
theorem dX1_willOf_75 : decode cX1_willOf 75 = .ok (.goto 4, 3) := by decide +kernel
theorem dX1_willOf_78 : decode cX1_willOf 78 = .ok (.iconst 0, 1) := by decide +kernel
theorem dX1_willOf_79 : decode cX1_willOf 79 = .ok (.ireturn, 1) := by decide +kernel
theorem dX1_gain_0 : decode cX1_gain 0 = .ok (.aload_n 0, 1) := by decide +kernel
theorem dX1_gain_1 : decode cX1_gain 1 = .ok (.getfield 15, 3) := by decide +kernel
theorem dX1_gain_4 : decode cX1_gain 4 = .ok (.iload_n 1, 1) := by decide +kernel
theorem dX1_gain_5 : decode cX1_gain 5 = .ok (.iaload, 1) := by decide +kernel
theorem dX1_gain_6 : decode cX1_gain 6 = .ok (.iload_n 2, 1) := by decide +kernel
theorem dX1_gain_7 : decode cX1_gain 7 = .ok (.iadd, 1) := by decide +kernel
theorem dX1_gain_8 : decode cX1_gain 8 = .ok (.istore_n 3, 1) := by decide +kernel
theorem dX1_gain_9 : decode cX1_gain 9 = .ok (.aload_n 0, 1) := by decide +kernel
theorem dX1_gain_10 : decode cX1_gain 10 = .ok (.getfield 15, 3) := by decide +kernel
theorem dX1_gain_13 : decode cX1_gain 13 = .ok (.iload_n 1, 1) := by decide +kernel
theorem dX1_gain_14 : decode cX1_gain 14 = .ok (.iload_n 3, 1) := by decide +kernel
theorem dX1_gain_15 : decode cX1_gain 15 = .ok (.sipush 999, 3) := by decide +kernel
theorem dX1_gain_18 : decode cX1_gain 18 = .ok (.if_icmp .le 9, 3) := by decide +kernel
theorem dX1_gain_21 : decode cX1_gain 21 = .ok (.sipush 999, 3) := by decide +kernel
theorem dX1_gain_24 : decode cX1_gain 24 = .ok (.goto 4, 3) := by decide +kernel
theorem dX1_gain_27 : decode cX1_gain 27 = .ok (.iload_n 3, 1) := by decide +kernel
theorem dX1_gain_28 : decode cX1_gain 28 = .ok (.iastore, 1) := by decide +kernel
theorem dX1_gain_29 : decode cX1_gain 29 = .ok (.return_, 1) := by decide +kernel
set_option maxRecDepth 20000 in
theorem ggX1_lendTo_X1_hasPair : GoodIn wsX1_lendTo wsX1_hasPair := goodIn_r _ [6, 7, 8, 9, 5, 10, 11, 24, 25, 26, 27, 28, 29, 30] (by decide +kernel) (by decide +kernel)
set_option maxRecDepth 20000 in
theorem gX1_lendTo_X1_hasPair : GoodIn wsX1_lendTo (wsV RX1 66 RX1 yX1_hasPair wsX1_hasPair) := goodIn_app (goodIn_of _ (by decide +kernel)) ggX1_lendTo_X1_hasPair
set_option maxRecDepth 20000 in
theorem ggX1_lendTo_X7_within : GoodIn wsX1_lendTo wsX7_within := goodIn_r _ [14] (by decide +kernel) (by decide +kernel)
set_option maxRecDepth 20000 in
theorem gX1_lendTo_X7_within_n70 : GoodIn wsX1_lendTo (wsX7_within) := ggX1_lendTo_X7_within
set_option maxRecDepth 20000 in
theorem ggX1_lendTo_X1_debt : GoodIn wsX1_lendTo wsX1_debt := goodIn_r _ [18, 19, 24, 25, 26, 27, 28, 29, 30] (by decide +kernel) (by decide +kernel)
set_option maxRecDepth 20000 in
theorem gX1_lendTo_X1_debt : GoodIn wsX1_lendTo (wsV RX1 74 RX1 yX1_debt wsX1_debt) := goodIn_app (goodIn_of _ (by decide +kernel)) ggX1_lendTo_X1_debt
set_option maxRecDepth 20000 in
theorem ggX1_lendTo_X1_setDebt : GoodIn wsX1_lendTo wsX1_setDebt := goodIn_r _ [23, 19, 24, 25, 26, 27, 28, 29, 30] (by decide +kernel) (by decide +kernel)
set_option maxRecDepth 20000 in
theorem gX1_lendTo_X1_setDebt : GoodIn wsX1_lendTo (wsV RX1 77 RX1 yX1_setDebt wsX1_setDebt) := goodIn_app (goodIn_of _ (by decide +kernel)) ggX1_lendTo_X1_setDebt
theorem dX1_lendTo_0 : decode cX1_lendTo 0 = .ok (.aload_n 0, 1) := by decide +kernel
theorem dX1_lendTo_1 : decode cX1_lendTo 1 = .ok (.iload_n 1, 1) := by decide +kernel
theorem dX1_lendTo_2 : decode cX1_lendTo 2 = .ok (.iload_n 2, 1) := by decide +kernel
theorem dX1_lendTo_3 : decode cX1_lendTo 3 = .ok (.invokevirtual 66, 3) := by decide +kernel
theorem dX1_lendTo_6 : decode cX1_lendTo 6 = .ok (.ifCond .eq 13, 3) := by decide +kernel
theorem dX1_lendTo_9 : decode cX1_lendTo 9 = .ok (.iload_n 3, 1) := by decide +kernel
theorem dX1_lendTo_10 : decode cX1_lendTo 10 = .ok (.iconst 1, 1) := by decide +kernel
theorem dX1_lendTo_11 : decode cX1_lendTo 11 = .ok (.bipush 99, 2) := by decide +kernel
theorem dX1_lendTo_13 : decode cX1_lendTo 13 = .ok (.invokestatic 70, 3) := by decide +kernel
theorem dX1_lendTo_16 : decode cX1_lendTo 16 = .ok (.ifCond .ne 5, 3) := by decide +kernel
theorem dX1_lendTo_19 : decode cX1_lendTo 19 = .ok (.iconst (-1), 1) := by decide +kernel
theorem dX1_lendTo_20 : decode cX1_lendTo 20 = .ok (.ireturn, 1) := by decide +kernel
theorem dX1_lendTo_21 : decode cX1_lendTo 21 = .ok (.aload_n 0, 1) := by decide +kernel
theorem dX1_lendTo_22 : decode cX1_lendTo 22 = .ok (.iload_n 2, 1) := by decide +kernel
theorem dX1_lendTo_23 : decode cX1_lendTo 23 = .ok (.iload_n 1, 1) := by decide +kernel
theorem dX1_lendTo_24 : decode cX1_lendTo 24 = .ok (.invokevirtual 74, 3) := by decide +kernel
theorem dX1_lendTo_27 : decode cX1_lendTo 27 = .ok (.iload_n 3, 1) := by decide +kernel
theorem dX1_lendTo_28 : decode cX1_lendTo 28 = .ok (.iadd, 1) := by decide +kernel
theorem dX1_lendTo_29 : decode cX1_lendTo 29 = .ok (.istore 4, 2) := by decide +kernel
theorem dX1_lendTo_31 : decode cX1_lendTo 31 = .ok (.aload_n 0, 1) := by decide +kernel
theorem dX1_lendTo_32 : decode cX1_lendTo 32 = .ok (.getfield 15, 3) := by decide +kernel
theorem dX1_lendTo_35 : decode cX1_lendTo 35 = .ok (.iload_n 1, 1) := by decide +kernel
theorem dX1_lendTo_36 : decode cX1_lendTo 36 = .ok (.iaload, 1) := by decide +kernel
theorem dX1_lendTo_37 : decode cX1_lendTo 37 = .ok (.iload_n 3, 1) := by decide +kernel
theorem dX1_lendTo_38 : decode cX1_lendTo 38 = .ok (.if_icmp .lt 24, 3) := by decide +kernel
theorem dX1_lendTo_41 : decode cX1_lendTo 41 = .ok (.iload 4, 2) := by decide +kernel
theorem dX1_lendTo_43 : decode cX1_lendTo 43 = .ok (.bipush 99, 2) := by decide +kernel
theorem dX1_lendTo_45 : decode cX1_lendTo 45 = .ok (.if_icmp .gt 17, 3) := by decide +kernel
theorem dX1_lendTo_48 : decode cX1_lendTo 48 = .ok (.aload_n 0, 1) := by decide +kernel
theorem dX1_lendTo_49 : decode cX1_lendTo 49 = .ok (.getfield 15, 3) := by decide +kernel
theorem dX1_lendTo_52 : decode cX1_lendTo 52 = .ok (.iload_n 2, 1) := by decide +kernel
theorem dX1_lendTo_53 : decode cX1_lendTo 53 = .ok (.iaload, 1) := by decide +kernel
theorem dX1_lendTo_54 : decode cX1_lendTo 54 = .ok (.iload_n 3, 1) := by decide +kernel
theorem dX1_lendTo_55 : decode cX1_lendTo 55 = .ok (.iadd, 1) := by decide +kernel
theorem dX1_lendTo_56 : decode cX1_lendTo 56 = .ok (.sipush 999, 3) := by decide +kernel
theorem dX1_lendTo_59 : decode cX1_lendTo 59 = .ok (.if_icmp .le 6, 3) := by decide +kernel
theorem dX1_lendTo_62 : decode cX1_lendTo 62 = .ok (.bipush (-2), 2) := by decide +kernel
theorem dX1_lendTo_64 : decode cX1_lendTo 64 = .ok (.ireturn, 1) := by decide +kernel
theorem dX1_lendTo_65 : decode cX1_lendTo 65 = .ok (.aload_n 0, 1) := by decide +kernel
theorem dX1_lendTo_66 : decode cX1_lendTo 66 = .ok (.getfield 15, 3) := by decide +kernel
theorem dX1_lendTo_69 : decode cX1_lendTo 69 = .ok (.iload_n 1, 1) := by decide +kernel
theorem dX1_lendTo_70 : decode cX1_lendTo 70 = .ok (.dup2, 1) := by decide +kernel
theorem dX1_lendTo_71 : decode cX1_lendTo 71 = .ok (.iaload, 1) := by decide +kernel
theorem dX1_lendTo_72 : decode cX1_lendTo 72 = .ok (.iload_n 3, 1) := by decide +kernel
theorem dX1_lendTo_73 : decode cX1_lendTo 73 = .ok (.isub, 1) := by decide +kernel
theorem dX1_lendTo_74 : decode cX1_lendTo 74 = .ok (.iastore, 1) := by decide +kernel
theorem dX1_lendTo_75 : decode cX1_lendTo 75 = .ok (.aload_n 0, 1) := by decide +kernel
theorem dX1_lendTo_76 : decode cX1_lendTo 76 = .ok (.getfield 15, 3) := by decide +kernel
theorem dX1_lendTo_79 : decode cX1_lendTo 79 = .ok (.iload_n 2, 1) := by decide +kernel
theorem dX1_lendTo_80 : decode cX1_lendTo 80 = .ok (.dup2, 1) := by decide +kernel
theorem dX1_lendTo_81 : decode cX1_lendTo 81 = .ok (.iaload, 1) := by decide +kernel
theorem dX1_lendTo_82 : decode cX1_lendTo 82 = .ok (.iload_n 3, 1) := by decide +kernel
theorem dX1_lendTo_83 : decode cX1_lendTo 83 = .ok (.iadd, 1) := by decide +kernel
theorem dX1_lendTo_84 : decode cX1_lendTo 84 = .ok (.iastore, 1) := by decide +kernel
theorem dX1_lendTo_85 : decode cX1_lendTo 85 = .ok (.aload_n 0, 1) := by decide +kernel
theorem dX1_lendTo_86 : decode cX1_lendTo 86 = .ok (.iload_n 2, 1) := by decide +kernel
theorem dX1_lendTo_87 : decode cX1_lendTo 87 = .ok (.iload_n 1, 1) := by decide +kernel
theorem dX1_lendTo_88 : decode cX1_lendTo 88 = .ok (.iload 4, 2) := by decide +kernel
theorem dX1_lendTo_90 : decode cX1_lendTo 90 = .ok (.invokevirtual 77, 3) := by decide +kernel
theorem dX1_lendTo_93 : decode cX1_lendTo 93 = .ok (.iload 4, 2) := by decide +kernel
theorem dX1_lendTo_95 : decode cX1_lendTo 95 = .ok (.ireturn, 1) := by decide +kernel
set_option maxRecDepth 20000 in
theorem ggX1_payTo_X1_hasPair : GoodIn wsX1_payTo wsX1_hasPair := goodIn_r _ [6, 7, 8, 9, 5, 10, 11, 32, 33, 34, 35, 36, 37, 38] (by decide +kernel) (by decide +kernel)
set_option maxRecDepth 20000 in
theorem gX1_payTo_X1_hasPair : GoodIn wsX1_payTo (wsV RX1 66 RX1 yX1_hasPair wsX1_hasPair) := goodIn_app (goodIn_of _ (by decide +kernel)) ggX1_payTo_X1_hasPair
set_option maxRecDepth 20000 in
theorem ggX1_payTo_X7_within : GoodIn wsX1_payTo wsX7_within := goodIn_r _ [14] (by decide +kernel) (by decide +kernel)
set_option maxRecDepth 20000 in
theorem gX1_payTo_X7_within_n70 : GoodIn wsX1_payTo (wsX7_within) := ggX1_payTo_X7_within
set_option maxRecDepth 20000 in
theorem ggX1_payTo_X1_debt : GoodIn wsX1_payTo wsX1_debt := goodIn_r _ [18, 19, 32, 33, 34, 35, 36, 37, 38] (by decide +kernel) (by decide +kernel)
set_option maxRecDepth 20000 in
theorem gX1_payTo_X1_debt : GoodIn wsX1_payTo (wsV RX1 74 RX1 yX1_debt wsX1_debt) := goodIn_app (goodIn_of _ (by decide +kernel)) ggX1_payTo_X1_debt
set_option maxRecDepth 20000 in
theorem ggX1_payTo_X1_handOver : GoodIn wsX1_payTo wsX1_handOver := goodIn_r _ [23, 1, 15, 16, 17, 5, 18, 19, 24, 25, 26, 27, 28, 29, 30, 31, 32, 33, 34, 35, 36, 37, 38] (by decide +kernel) (by decide +kernel)
set_option maxRecDepth 20000 in
theorem gX1_payTo_X1_handOver : GoodIn wsX1_payTo (wsV RX1 81 RX1 yX1_handOver wsX1_handOver) := goodIn_app (goodIn_of _ (by decide +kernel)) ggX1_payTo_X1_handOver
theorem dX1_payTo_0 : decode cX1_payTo 0 = .ok (.aload_n 0, 1) := by decide +kernel
theorem dX1_payTo_1 : decode cX1_payTo 1 = .ok (.iload_n 1, 1) := by decide +kernel
theorem dX1_payTo_2 : decode cX1_payTo 2 = .ok (.iload_n 2, 1) := by decide +kernel
theorem dX1_payTo_3 : decode cX1_payTo 3 = .ok (.invokevirtual 66, 3) := by decide +kernel
theorem dX1_payTo_6 : decode cX1_payTo 6 = .ok (.ifCond .eq 13, 3) := by decide +kernel
theorem dX1_payTo_9 : decode cX1_payTo 9 = .ok (.iload_n 3, 1) := by decide +kernel
theorem dX1_payTo_10 : decode cX1_payTo 10 = .ok (.iconst 1, 1) := by decide +kernel
theorem dX1_payTo_11 : decode cX1_payTo 11 = .ok (.bipush 99, 2) := by decide +kernel
theorem dX1_payTo_13 : decode cX1_payTo 13 = .ok (.invokestatic 70, 3) := by decide +kernel
theorem dX1_payTo_16 : decode cX1_payTo 16 = .ok (.ifCond .ne 5, 3) := by decide +kernel
theorem dX1_payTo_19 : decode cX1_payTo 19 = .ok (.iconst (-1), 1) := by decide +kernel
theorem dX1_payTo_20 : decode cX1_payTo 20 = .ok (.ireturn, 1) := by decide +kernel
theorem dX1_payTo_21 : decode cX1_payTo 21 = .ok (.aload_n 0, 1) := by decide +kernel
theorem dX1_payTo_22 : decode cX1_payTo 22 = .ok (.iload_n 1, 1) := by decide +kernel
theorem dX1_payTo_23 : decode cX1_payTo 23 = .ok (.iload_n 2, 1) := by decide +kernel
theorem dX1_payTo_24 : decode cX1_payTo 24 = .ok (.invokevirtual 74, 3) := by decide +kernel
theorem dX1_payTo_27 : decode cX1_payTo 27 = .ok (.iload_n 3, 1) := by decide +kernel
theorem dX1_payTo_28 : decode cX1_payTo 28 = .ok (.if_icmp .lt 13, 3) := by decide +kernel
theorem dX1_payTo_31 : decode cX1_payTo 31 = .ok (.aload_n 0, 1) := by decide +kernel
theorem dX1_payTo_32 : decode cX1_payTo 32 = .ok (.getfield 15, 3) := by decide +kernel
theorem dX1_payTo_35 : decode cX1_payTo 35 = .ok (.iload_n 1, 1) := by decide +kernel
theorem dX1_payTo_36 : decode cX1_payTo 36 = .ok (.iaload, 1) := by decide +kernel
theorem dX1_payTo_37 : decode cX1_payTo 37 = .ok (.iload_n 3, 1) := by decide +kernel
theorem dX1_payTo_38 : decode cX1_payTo 38 = .ok (.if_icmp .ge 6, 3) := by decide +kernel
theorem dX1_payTo_41 : decode cX1_payTo 41 = .ok (.bipush (-2), 2) := by decide +kernel
theorem dX1_payTo_43 : decode cX1_payTo 43 = .ok (.ireturn, 1) := by decide +kernel
theorem dX1_payTo_44 : decode cX1_payTo 44 = .ok (.aload_n 0, 1) := by decide +kernel
theorem dX1_payTo_45 : decode cX1_payTo 45 = .ok (.iload_n 1, 1) := by decide +kernel
theorem dX1_payTo_46 : decode cX1_payTo 46 = .ok (.iload_n 2, 1) := by decide +kernel
theorem dX1_payTo_47 : decode cX1_payTo 47 = .ok (.iload_n 3, 1) := by decide +kernel
theorem dX1_payTo_48 : decode cX1_payTo 48 = .ok (.invokevirtual 81, 3) := by decide +kernel
theorem dX1_payTo_51 : decode cX1_payTo 51 = .ok (.aload_n 0, 1) := by decide +kernel
theorem dX1_payTo_52 : decode cX1_payTo 52 = .ok (.iload_n 1, 1) := by decide +kernel
theorem dX1_payTo_53 : decode cX1_payTo 53 = .ok (.iload_n 2, 1) := by decide +kernel
theorem dX1_payTo_54 : decode cX1_payTo 54 = .ok (.invokevirtual 74, 3) := by decide +kernel
theorem dX1_payTo_57 : decode cX1_payTo 57 = .ok (.ireturn, 1) := by decide +kernel
set_option maxRecDepth 20000 in
theorem ggX1_handOver_X1_debt : GoodIn wsX1_handOver wsX1_debt := goodIn_r _ [6, 7, 16, 17, 18, 19, 20, 21, 22] (by decide +kernel) (by decide +kernel)
set_option maxRecDepth 20000 in
theorem gX1_handOver_X1_debt : GoodIn wsX1_handOver (wsV RX1 74 RX1 yX1_debt wsX1_debt) := goodIn_app (goodIn_of _ (by decide +kernel)) ggX1_handOver_X1_debt
set_option maxRecDepth 20000 in
theorem ggX1_handOver_X1_setDebt : GoodIn wsX1_handOver wsX1_setDebt := goodIn_r _ [11, 7, 16, 17, 18, 19, 20, 21, 22] (by decide +kernel) (by decide +kernel)
set_option maxRecDepth 20000 in
theorem gX1_handOver_X1_setDebt : GoodIn wsX1_handOver (wsV RX1 77 RX1 yX1_setDebt wsX1_setDebt) := goodIn_app (goodIn_of _ (by decide +kernel)) ggX1_handOver_X1_setDebt
set_option maxRecDepth 20000 in
theorem ggX1_handOver_X1_gain : GoodIn wsX1_handOver wsX1_gain := goodIn_r _ [15, 1, 16, 17, 18, 19, 20, 21, 22] (by decide +kernel) (by decide +kernel)
set_option maxRecDepth 20000 in
theorem gX1_handOver_X1_gain : GoodIn wsX1_handOver (wsV RX1 84 RX1 yX1_gain wsX1_gain) := goodIn_app (goodIn_of _ (by decide +kernel)) ggX1_handOver_X1_gain
theorem dX1_handOver_0 : decode cX1_handOver 0 = .ok (.aload_n 0, 1) := by decide +kernel
theorem dX1_handOver_1 : decode cX1_handOver 1 = .ok (.getfield 15, 3) := by decide +kernel
theorem dX1_handOver_4 : decode cX1_handOver 4 = .ok (.iload_n 1, 1) := by decide +kernel
theorem dX1_handOver_5 : decode cX1_handOver 5 = .ok (.dup2, 1) := by decide +kernel
theorem dX1_handOver_6 : decode cX1_handOver 6 = .ok (.iaload, 1) := by decide +kernel
theorem dX1_handOver_7 : decode cX1_handOver 7 = .ok (.iload_n 3, 1) := by decide +kernel
theorem dX1_handOver_8 : decode cX1_handOver 8 = .ok (.isub, 1) := by decide +kernel
theorem dX1_handOver_9 : decode cX1_handOver 9 = .ok (.iastore, 1) := by decide +kernel
theorem dX1_handOver_10 : decode cX1_handOver 10 = .ok (.aload_n 0, 1) := by decide +kernel
theorem dX1_handOver_11 : decode cX1_handOver 11 = .ok (.iload_n 1, 1) := by decide +kernel
theorem dX1_handOver_12 : decode cX1_handOver 12 = .ok (.iload_n 2, 1) := by decide +kernel
theorem dX1_handOver_13 : decode cX1_handOver 13 = .ok (.aload_n 0, 1) := by decide +kernel
theorem dX1_handOver_14 : decode cX1_handOver 14 = .ok (.iload_n 1, 1) := by decide +kernel
theorem dX1_handOver_15 : decode cX1_handOver 15 = .ok (.iload_n 2, 1) := by decide +kernel
theorem dX1_handOver_16 : decode cX1_handOver 16 = .ok (.invokevirtual 74, 3) := by decide +kernel
theorem dX1_handOver_19 : decode cX1_handOver 19 = .ok (.iload_n 3, 1) := by decide +kernel
theorem dX1_handOver_20 : decode cX1_handOver 20 = .ok (.isub, 1) := by decide +kernel
theorem dX1_handOver_21 : decode cX1_handOver 21 = .ok (.invokevirtual 77, 3) := by decide +kernel
theorem dX1_handOver_24 : decode cX1_handOver 24 = .ok (.aload_n 0, 1) := by decide +kernel
theorem dX1_handOver_25 : decode cX1_handOver 25 = .ok (.iload_n 2, 1) := by decide +kernel
theorem dX1_handOver_26 : decode cX1_handOver 26 = .ok (.iload_n 3, 1) := by decide +kernel
theorem dX1_handOver_27 : decode cX1_handOver 27 = .ok (.invokevirtual 84, 3) := by decide +kernel
theorem dX1_handOver_30 : decode cX1_handOver 30 = .ok (.return_, 1) := by decide +kernel
set_option maxRecDepth 20000 in
theorem ggX1_runDay_X1_gain : GoodIn wsX1_runDay wsX1_gain := goodIn_r _ [12, 13, 43, 44, 45, 46, 47, 48, 49] (by decide +kernel) (by decide +kernel)
set_option maxRecDepth 20000 in
theorem gX1_runDay_X1_gain : GoodIn wsX1_runDay (wsV RX1 84 RX1 yX1_gain wsX1_gain) := goodIn_app (goodIn_of _ (by decide +kernel)) ggX1_runDay_X1_gain
set_option maxRecDepth 20000 in
theorem ggX1_runDay_X1_payOut : GoodIn wsX1_runDay wsX1_payOut := goodIn_r _ [17, 1, 18, 19, 5, 20, 21, 22, 23, 11, 24, 25, 13, 26, 27, 28, 29, 30, 31, 32, 33, 34, 35, 36, 37, 38, 39, 40, 41, 42, 8, 9, 10, 12, 43, 44, 45, 46, 47, 48, 49] (by decide +kernel) (by decide +kernel)
set_option maxRecDepth 20000 in
theorem gX1_runDay_X1_payOut : GoodIn wsX1_runDay (wsV RX1 88 RX1 yX1_payOut wsX1_payOut) := goodIn_app (goodIn_of _ (by decide +kernel)) ggX1_runDay_X1_payOut
theorem dX1_runDay_0 : decode cX1_runDay 0 = .ok (.iconst 0, 1) := by decide +kernel
theorem dX1_runDay_1 : decode cX1_runDay 1 = .ok (.istore_n 2, 1) := by decide +kernel
theorem dX1_runDay_2 : decode cX1_runDay 2 = .ok (.iload_n 2, 1) := by decide +kernel
theorem dX1_runDay_3 : decode cX1_runDay 3 = .ok (.aload_n 0, 1) := by decide +kernel
theorem dX1_runDay_4 : decode cX1_runDay 4 = .ok (.getfield 24, 3) := by decide +kernel
theorem dX1_runDay_7 : decode cX1_runDay 7 = .ok (.if_icmp .ge 26, 3) := by decide +kernel
theorem dX1_runDay_10 : decode cX1_runDay 10 = .ok (.aload_n 0, 1) := by decide +kernel
theorem dX1_runDay_11 : decode cX1_runDay 11 = .ok (.iload_n 2, 1) := by decide +kernel
theorem dX1_runDay_12 : decode cX1_runDay 12 = .ok (.iconst 0, 1) := by decide +kernel
theorem dX1_runDay_13 : decode cX1_runDay 13 = .ok (.aload_n 0, 1) := by decide +kernel
theorem dX1_runDay_14 : decode cX1_runDay 14 = .ok (.getfield 18, 3) := by decide +kernel
theorem dX1_runDay_17 : decode cX1_runDay 17 = .ok (.iload_n 2, 1) := by decide +kernel
theorem dX1_runDay_18 : decode cX1_runDay 18 = .ok (.iaload, 1) := by decide +kernel
theorem dX1_runDay_19 : decode cX1_runDay 19 = .ok (.iload_n 1, 1) := by decide +kernel
theorem dX1_runDay_20 : decode cX1_runDay 20 = .ok (.isub, 1) := by decide +kernel
theorem dX1_runDay_21 : decode cX1_runDay 21 = .ok (.invokestatic 60, 3) := by decide +kernel
theorem dX1_runDay_24 : decode cX1_runDay 24 = .ok (.invokevirtual 84, 3) := by decide +kernel
theorem dX1_runDay_27 : decode cX1_runDay 27 = .ok (.iinc 2 1, 3) := by decide +kernel
theorem dX1_runDay_30 : decode cX1_runDay 30 = .ok (.goto (-28), 3) := by decide +kernel
theorem dX1_runDay_33 : decode cX1_runDay 33 = .ok (.iconst 0, 1) := by decide +kernel
theorem dX1_runDay_34 : decode cX1_runDay 34 = .ok (.istore_n 2, 1) := by decide +kernel
theorem dX1_runDay_35 : decode cX1_runDay 35 = .ok (.iconst 0, 1) := by decide +kernel
theorem dX1_runDay_36 : decode cX1_runDay 36 = .ok (.istore_n 3, 1) := by decide +kernel
theorem dX1_runDay_37 : decode cX1_runDay 37 = .ok (.iload_n 3, 1) := by decide +kernel
theorem dX1_runDay_38 : decode cX1_runDay 38 = .ok (.aload_n 0, 1) := by decide +kernel
theorem dX1_runDay_39 : decode cX1_runDay 39 = .ok (.getfield 24, 3) := by decide +kernel
theorem dX1_runDay_42 : decode cX1_runDay 42 = .ok (.if_icmp .ge 17, 3) := by decide +kernel
theorem dX1_runDay_45 : decode cX1_runDay 45 = .ok (.iload_n 2, 1) := by decide +kernel
theorem dX1_runDay_46 : decode cX1_runDay 46 = .ok (.aload_n 0, 1) := by decide +kernel
theorem dX1_runDay_47 : decode cX1_runDay 47 = .ok (.iload_n 3, 1) := by decide +kernel
theorem dX1_runDay_48 : decode cX1_runDay 48 = .ok (.invokevirtual 88, 3) := by decide +kernel
theorem dX1_runDay_51 : decode cX1_runDay 51 = .ok (.iadd, 1) := by decide +kernel
theorem dX1_runDay_52 : decode cX1_runDay 52 = .ok (.istore_n 2, 1) := by decide +kernel
theorem dX1_runDay_53 : decode cX1_runDay 53 = .ok (.iinc 3 1, 3) := by decide +kernel
theorem dX1_runDay_56 : decode cX1_runDay 56 = .ok (.goto (-19), 3) := by decide +kernel
theorem dX1_runDay_59 : decode cX1_runDay 59 = .ok (.aload_n 0, 1) := by decide +kernel
theorem dX1_runDay_60 : decode cX1_runDay 60 = .ok (.dup, 1) := by decide +kernel
theorem dX1_runDay_61 : decode cX1_runDay 61 = .ok (.getfield 28, 3) := by decide +kernel
theorem dX1_runDay_64 : decode cX1_runDay 64 = .ok (.iconst 1, 1) := by decide +kernel
theorem dX1_runDay_65 : decode cX1_runDay 65 = .ok (.iadd, 1) := by decide +kernel
theorem dX1_runDay_66 : decode cX1_runDay 66 = .ok (.putfield 28, 3) := by decide +kernel
theorem dX1_runDay_69 : decode cX1_runDay 69 = .ok (.iload_n 2, 1) := by decide +kernel
theorem dX1_runDay_70 : decode cX1_runDay 70 = .ok (.ireturn, 1) := by decide +kernel
set_option maxRecDepth 20000 in
theorem ggX1_payOut_X1_willOf : GoodIn wsX1_payOut wsX1_willOf := goodIn_r _ [10, 11, 12, 13, 14, 15, 9, 16, 1, 17, 34, 35, 36, 37, 38, 39, 40] (by decide +kernel) (by decide +kernel)
set_option maxRecDepth 20000 in
theorem gX1_payOut_X1_willOf : GoodIn wsX1_payOut (wsV RX1 91 RX1 yX1_willOf wsX1_willOf) := goodIn_app (goodIn_of _ (by decide +kernel)) ggX1_payOut_X1_willOf
set_option maxRecDepth 20000 in
theorem ggX1_payOut_X1_debt : GoodIn wsX1_payOut wsX1_debt := goodIn_r _ [21, 17, 34, 35, 36, 37, 38, 39, 40] (by decide +kernel) (by decide +kernel)
set_option maxRecDepth 20000 in
theorem gX1_payOut_X1_debt : GoodIn wsX1_payOut (wsV RX1 74 RX1 yX1_debt wsX1_debt) := goodIn_app (goodIn_of _ (by decide +kernel)) ggX1_payOut_X1_debt
set_option maxRecDepth 20000 in
theorem ggX1_payOut_X1_handOver : GoodIn wsX1_payOut wsX1_handOver := goodIn_r _ [25, 12, 18, 19, 20, 9, 21, 17, 26, 27, 28, 29, 30, 31, 32, 33, 34, 35, 36, 37, 38, 39, 40] (by decide +kernel) (by decide +kernel)
set_option maxRecDepth 20000 in
theorem gX1_payOut_X1_handOver : GoodIn wsX1_payOut (wsV RX1 81 RX1 yX1_handOver wsX1_handOver) := goodIn_app (goodIn_of _ (by decide +kernel)) ggX1_payOut_X1_handOver
theorem dX1_payOut_0 : decode cX1_payOut 0 = .ok (.aload_n 0, 1) := by decide +kernel
theorem dX1_payOut_1 : decode cX1_payOut 1 = .ok (.iload_n 1, 1) := by decide +kernel
theorem dX1_payOut_2 : decode cX1_payOut 2 = .ok (.invokevirtual 91, 3) := by decide +kernel
theorem dX1_payOut_5 : decode cX1_payOut 5 = .ok (.istore_n 2, 1) := by decide +kernel
theorem dX1_payOut_6 : decode cX1_payOut 6 = .ok (.iload_n 2, 1) := by decide +kernel
theorem dX1_payOut_7 : decode cX1_payOut 7 = .ok (.istore_n 3, 1) := by decide +kernel
theorem dX1_payOut_8 : decode cX1_payOut 8 = .ok (.iconst 0, 1) := by decide +kernel
theorem dX1_payOut_9 : decode cX1_payOut 9 = .ok (.istore 4, 2) := by decide +kernel
theorem dX1_payOut_11 : decode cX1_payOut 11 = .ok (.iload 4, 2) := by decide +kernel
theorem dX1_payOut_13 : decode cX1_payOut 13 = .ok (.aload_n 0, 1) := by decide +kernel
theorem dX1_payOut_14 : decode cX1_payOut 14 = .ok (.getfield 24, 3) := by decide +kernel
theorem dX1_payOut_17 : decode cX1_payOut 17 = .ok (.if_icmp .ge 45, 3) := by decide +kernel
theorem dX1_payOut_20 : decode cX1_payOut 20 = .ok (.iload_n 3, 1) := by decide +kernel
theorem dX1_payOut_21 : decode cX1_payOut 21 = .ok (.ifCond .le 41, 3) := by decide +kernel
theorem dX1_payOut_24 : decode cX1_payOut 24 = .ok (.iload_n 3, 1) := by decide +kernel
theorem dX1_payOut_25 : decode cX1_payOut 25 = .ok (.aload_n 0, 1) := by decide +kernel
theorem dX1_payOut_26 : decode cX1_payOut 26 = .ok (.iload_n 1, 1) := by decide +kernel
theorem dX1_payOut_27 : decode cX1_payOut 27 = .ok (.iload 4, 2) := by decide +kernel
theorem dX1_payOut_29 : decode cX1_payOut 29 = .ok (.invokevirtual 74, 3) := by decide +kernel
theorem dX1_payOut_32 : decode cX1_payOut 32 = .ok (.invokestatic 94, 3) := by decide +kernel
theorem dX1_payOut_35 : decode cX1_payOut 35 = .ok (.istore 5, 2) := by decide +kernel
theorem dX1_payOut_37 : decode cX1_payOut 37 = .ok (.iload 5, 2) := by decide +kernel
theorem dX1_payOut_39 : decode cX1_payOut 39 = .ok (.ifCond .le 17, 3) := by decide +kernel
theorem dX1_payOut_42 : decode cX1_payOut 42 = .ok (.aload_n 0, 1) := by decide +kernel
theorem dX1_payOut_43 : decode cX1_payOut 43 = .ok (.iload_n 1, 1) := by decide +kernel
theorem dX1_payOut_44 : decode cX1_payOut 44 = .ok (.iload 4, 2) := by decide +kernel
theorem dX1_payOut_46 : decode cX1_payOut 46 = .ok (.iload 5, 2) := by decide +kernel
theorem dX1_payOut_48 : decode cX1_payOut 48 = .ok (.invokevirtual 81, 3) := by decide +kernel
theorem dX1_payOut_51 : decode cX1_payOut 51 = .ok (.iload_n 3, 1) := by decide +kernel
theorem dX1_payOut_52 : decode cX1_payOut 52 = .ok (.iload 5, 2) := by decide +kernel
theorem dX1_payOut_54 : decode cX1_payOut 54 = .ok (.isub, 1) := by decide +kernel
theorem dX1_payOut_55 : decode cX1_payOut 55 = .ok (.istore_n 3, 1) := by decide +kernel
theorem dX1_payOut_56 : decode cX1_payOut 56 = .ok (.iinc 4 1, 3) := by decide +kernel
theorem dX1_payOut_59 : decode cX1_payOut 59 = .ok (.goto (-48), 3) := by decide +kernel
theorem dX1_payOut_62 : decode cX1_payOut 62 = .ok (.iload_n 2, 1) := by decide +kernel
theorem dX1_payOut_63 : decode cX1_payOut 63 = .ok (.iload_n 3, 1) := by decide +kernel
theorem dX1_payOut_64 : decode cX1_payOut 64 = .ok (.isub, 1) := by decide +kernel
theorem dX1_payOut_65 : decode cX1_payOut 65 = .ok (.ireturn, 1) := by decide +kernel
set_option maxRecDepth 20000 in
theorem ggX1_runDays_X1_runDay : GoodIn wsX1_runDays wsX1_runDay := goodIn_r _ [6, 7, 8, 9, 10, 11, 12, 13, 14, 15, 16, 5, 17, 18, 19, 20, 21, 22, 23, 24, 25, 26, 27, 28, 29, 30, 31, 32, 33, 34, 35, 36, 37, 38, 39, 40, 41, 42, 43, 44, 45, 46, 47, 48, 49, 50, 51, 52, 53, 54] (by decide +kernel) (by decide +kernel)
set_option maxRecDepth 20000 in
theorem gX1_runDays_X1_runDay : GoodIn wsX1_runDays (wsV RX1 97 RX1 yX1_runDay wsX1_runDay) := goodIn_app (goodIn_of _ (by decide +kernel)) ggX1_runDays_X1_runDay
theorem dX1_runDays_0 : decode cX1_runDays 0 = .ok (.iconst 0, 1) := by decide +kernel
theorem dX1_runDays_1 : decode cX1_runDays 1 = .ok (.istore_n 2, 1) := by decide +kernel
theorem dX1_runDays_2 : decode cX1_runDays 2 = .ok (.iconst 0, 1) := by decide +kernel
theorem dX1_runDays_3 : decode cX1_runDays 3 = .ok (.istore_n 3, 1) := by decide +kernel
theorem dX1_runDays_4 : decode cX1_runDays 4 = .ok (.iload_n 3, 1) := by decide +kernel
theorem dX1_runDays_5 : decode cX1_runDays 5 = .ok (.iload_n 1, 1) := by decide +kernel
theorem dX1_runDays_6 : decode cX1_runDays 6 = .ok (.if_icmp .ge 20, 3) := by decide +kernel
theorem dX1_runDays_9 : decode cX1_runDays 9 = .ok (.iload_n 2, 1) := by decide +kernel
theorem dX1_runDays_10 : decode cX1_runDays 10 = .ok (.aload_n 0, 1) := by decide +kernel
theorem dX1_runDays_11 : decode cX1_runDays 11 = .ok (.aload_n 0, 1) := by decide +kernel
theorem dX1_runDays_12 : decode cX1_runDays 12 = .ok (.getfield 31, 3) := by decide +kernel
theorem dX1_runDays_15 : decode cX1_runDays 15 = .ok (.invokevirtual 97, 3) := by decide +kernel
theorem dX1_runDays_18 : decode cX1_runDays 18 = .ok (.iadd, 1) := by decide +kernel
theorem dX1_runDays_19 : decode cX1_runDays 19 = .ok (.istore_n 2, 1) := by decide +kernel
theorem dX1_runDays_20 : decode cX1_runDays 20 = .ok (.iinc 3 1, 3) := by decide +kernel
theorem dX1_runDays_23 : decode cX1_runDays 23 = .ok (.goto (-19), 3) := by decide +kernel
theorem dX1_runDays_26 : decode cX1_runDays 26 = .ok (.iload_n 2, 1) := by decide +kernel
theorem dX1_runDays_27 : decode cX1_runDays 27 = .ok (.ireturn, 1) := by decide +kernel
set_option maxRecDepth 20000 in
theorem ggX1_ridersInTheEnd_X1_runDay : GoodIn wsX1_ridersInTheEnd wsX1_runDay := goodIn_r _ [6, 7, 8, 9, 10, 11, 12, 13, 14, 15, 16, 5, 17, 18, 19, 20, 21, 22, 23, 24, 25, 26, 27, 28, 29, 30, 31, 32, 33, 34, 35, 36, 37, 38, 39, 40, 41, 42, 43, 44, 45, 46, 47, 63, 64, 65, 66, 67, 68, 69] (by decide +kernel) (by decide +kernel)
set_option maxRecDepth 20000 in
theorem gX1_ridersInTheEnd_X1_runDay : GoodIn wsX1_ridersInTheEnd (wsV RX1 97 RX1 yX1_runDay wsX1_runDay) := goodIn_app (goodIn_of _ (by decide +kernel)) ggX1_ridersInTheEnd_X1_runDay
set_option maxRecDepth 20000 in
theorem ggX1_ridersInTheEnd_X1_riders : GoodIn wsX1_ridersInTheEnd wsX1_riders := goodIn_r _ [51, 7, 52, 53, 54, 5, 55, 31, 32, 33, 34, 35, 63, 64, 65, 66, 67, 68, 69] (by decide +kernel) (by decide +kernel)
set_option maxRecDepth 20000 in
theorem gX1_ridersInTheEnd_X1_riders : GoodIn wsX1_ridersInTheEnd (wsV RX1 100 RX1 yX1_riders wsX1_riders) := goodIn_app (goodIn_of _ (by decide +kernel)) ggX1_ridersInTheEnd_X1_riders
set_option maxRecDepth 20000 in
theorem ggX1_ridersInTheEnd_J6_bitCount_0f7a4 : GoodIn wsX1_ridersInTheEnd wsJ6_bitCount_0f7a4 := goodIn_r _ [59, 60, 61, 62] (by decide +kernel) (by decide +kernel)
set_option maxRecDepth 20000 in
theorem gX1_ridersInTheEnd_J6_bitCount_0f7a4 : GoodIn wsX1_ridersInTheEnd (va_wsS RX1 104 yJ6_bitCount_0f7a4 wsJ6_bitCount_0f7a4) := goodIn_app (goodIn_of _ (by decide +kernel)) ggX1_ridersInTheEnd_J6_bitCount_0f7a4
theorem dX1_ridersInTheEnd_0 : decode cX1_ridersInTheEnd 0 = .ok (.iconst 0, 1) := by decide +kernel
theorem dX1_ridersInTheEnd_1 : decode cX1_ridersInTheEnd 1 = .ok (.istore_n 1, 1) := by decide +kernel
theorem dX1_ridersInTheEnd_2 : decode cX1_ridersInTheEnd 2 = .ok (.iload_n 1, 1) := by decide +kernel
theorem dX1_ridersInTheEnd_3 : decode cX1_ridersInTheEnd 3 = .ok (.bipush 30, 2) := by decide +kernel
theorem dX1_ridersInTheEnd_5 : decode cX1_ridersInTheEnd 5 = .ok (.if_icmp .ge 18, 3) := by decide +kernel
theorem dX1_ridersInTheEnd_8 : decode cX1_ridersInTheEnd 8 = .ok (.aload_n 0, 1) := by decide +kernel
theorem dX1_ridersInTheEnd_9 : decode cX1_ridersInTheEnd 9 = .ok (.aload_n 0, 1) := by decide +kernel
theorem dX1_ridersInTheEnd_10 : decode cX1_ridersInTheEnd 10 = .ok (.getfield 31, 3) := by decide +kernel
theorem dX1_ridersInTheEnd_13 : decode cX1_ridersInTheEnd 13 = .ok (.invokevirtual 97, 3) := by decide +kernel
theorem dX1_ridersInTheEnd_16 : decode cX1_ridersInTheEnd 16 = .ok (.pop, 1) := by decide +kernel
theorem dX1_ridersInTheEnd_17 : decode cX1_ridersInTheEnd 17 = .ok (.iinc 1 1, 3) := by decide +kernel
theorem dX1_ridersInTheEnd_20 : decode cX1_ridersInTheEnd 20 = .ok (.goto (-18), 3) := by decide +kernel
theorem dX1_ridersInTheEnd_23 : decode cX1_ridersInTheEnd 23 = .ok (.aload_n 0, 1) := by decide +kernel
theorem dX1_ridersInTheEnd_24 : decode cX1_ridersInTheEnd 24 = .ok (.invokevirtual 100, 3) := by decide +kernel
theorem dX1_ridersInTheEnd_27 : decode cX1_ridersInTheEnd 27 = .ok (.invokestatic 104, 3) := by decide +kernel
theorem dX1_ridersInTheEnd_30 : decode cX1_ridersInTheEnd 30 = .ok (.ireturn, 1) := by decide +kernel
set_option maxRecDepth 20000 in
theorem ggX1_daysTillRiding_X1_isRiding : GoodIn wsX1_daysTillRiding wsX1_isRiding := goodIn_r _ [6, 7, 8, 9, 5, 10, 11, 12, 52, 53, 54, 55, 56, 57, 58] (by decide +kernel) (by decide +kernel)
set_option maxRecDepth 20000 in
theorem gX1_daysTillRiding_X1_isRiding : GoodIn wsX1_daysTillRiding (wsV RX1 57 RX1 yX1_isRiding wsX1_isRiding) := goodIn_app (goodIn_of _ (by decide +kernel)) ggX1_daysTillRiding_X1_isRiding
set_option maxRecDepth 20000 in
theorem ggX1_daysTillRiding_X1_runDay : GoodIn wsX1_daysTillRiding wsX1_runDay := goodIn_r _ [16, 11, 17, 18, 19, 20, 21, 22, 23, 24, 25, 5, 26, 27, 28, 29, 30, 31, 32, 33, 34, 35, 36, 37, 38, 39, 7, 8, 9, 10, 12, 40, 41, 42, 43, 44, 45, 46, 47, 48, 49, 50, 51, 52, 53, 54, 55, 56, 57, 58] (by decide +kernel) (by decide +kernel)
set_option maxRecDepth 20000 in
theorem gX1_daysTillRiding_X1_runDay : GoodIn wsX1_daysTillRiding (wsV RX1 97 RX1 yX1_runDay wsX1_runDay) := goodIn_app (goodIn_of _ (by decide +kernel)) ggX1_daysTillRiding_X1_runDay
theorem dX1_daysTillRiding_0 : decode cX1_daysTillRiding 0 = .ok (.iconst 0, 1) := by decide +kernel
theorem dX1_daysTillRiding_1 : decode cX1_daysTillRiding 1 = .ok (.istore_n 2, 1) := by decide +kernel
theorem dX1_daysTillRiding_2 : decode cX1_daysTillRiding 2 = .ok (.iload_n 2, 1) := by decide +kernel
theorem dX1_daysTillRiding_3 : decode cX1_daysTillRiding 3 = .ok (.bipush 60, 2) := by decide +kernel
theorem dX1_daysTillRiding_5 : decode cX1_daysTillRiding 5 = .ok (.if_icmp .gt 28, 3) := by decide +kernel
theorem dX1_daysTillRiding_8 : decode cX1_daysTillRiding 8 = .ok (.aload_n 0, 1) := by decide +kernel
theorem dX1_daysTillRiding_9 : decode cX1_daysTillRiding 9 = .ok (.iload_n 1, 1) := by decide +kernel
theorem dX1_daysTillRiding_10 : decode cX1_daysTillRiding 10 = .ok (.invokevirtual 57, 3) := by decide +kernel
theorem dX1_daysTillRiding_13 : decode cX1_daysTillRiding 13 = .ok (.ifCond .eq 5, 3) := by decide +kernel
theorem dX1_daysTillRiding_16 : decode cX1_daysTillRiding 16 = .ok (.iload_n 2, 1) := by decide +kernel
theorem dX1_daysTillRiding_17 : decode cX1_daysTillRiding 17 = .ok (.ireturn, 1) := by decide +kernel
theorem dX1_daysTillRiding_18 : decode cX1_daysTillRiding 18 = .ok (.aload_n 0, 1) := by decide +kernel
theorem dX1_daysTillRiding_19 : decode cX1_daysTillRiding 19 = .ok (.aload_n 0, 1) := by decide +kernel
theorem dX1_daysTillRiding_20 : decode cX1_daysTillRiding 20 = .ok (.getfield 31, 3) := by decide +kernel
theorem dX1_daysTillRiding_23 : decode cX1_daysTillRiding 23 = .ok (.invokevirtual 97, 3) := by decide +kernel
theorem dX1_daysTillRiding_26 : decode cX1_daysTillRiding 26 = .ok (.pop, 1) := by decide +kernel
theorem dX1_daysTillRiding_27 : decode cX1_daysTillRiding 27 = .ok (.iinc 2 1, 3) := by decide +kernel
theorem dX1_daysTillRiding_30 : decode cX1_daysTillRiding 30 = .ok (.goto (-28), 3) := by decide +kernel
theorem dX1_daysTillRiding_33 : decode cX1_daysTillRiding 33 = .ok (.bipush (-4), 2) := by decide +kernel
theorem dX1_daysTillRiding_35 : decode cX1_daysTillRiding 35 = .ok (.ireturn, 1) := by decide +kernel
set_option maxRecDepth 20000 in
theorem ggX1_daysTillAllRide_X1_owedInAll : GoodIn wsX1_daysTillAllRide wsX1_owedInAll := goodIn_r _ [6, 7, 8, 9, 10, 5, 11, 12, 52, 53, 54, 55, 56, 57, 58] (by decide +kernel) (by decide +kernel)
set_option maxRecDepth 20000 in
theorem gX1_daysTillAllRide_X1_owedInAll : GoodIn wsX1_daysTillAllRide (wsV RX1 109 RX1 yX1_owedInAll wsX1_owedInAll) := goodIn_app (goodIn_of _ (by decide +kernel)) ggX1_daysTillAllRide_X1_owedInAll
set_option maxRecDepth 20000 in
theorem ggX1_daysTillAllRide_X1_runDay : GoodIn wsX1_daysTillAllRide wsX1_runDay := goodIn_r _ [16, 7, 17, 18, 19, 20, 21, 22, 23, 24, 25, 5, 26, 27, 28, 29, 30, 31, 32, 33, 34, 35, 36, 37, 38, 39, 8, 9, 10, 11, 12, 40, 41, 42, 43, 44, 45, 46, 47, 48, 49, 50, 51, 52, 53, 54, 55, 56, 57, 58] (by decide +kernel) (by decide +kernel)
set_option maxRecDepth 20000 in
theorem gX1_daysTillAllRide_X1_runDay : GoodIn wsX1_daysTillAllRide (wsV RX1 97 RX1 yX1_runDay wsX1_runDay) := goodIn_app (goodIn_of _ (by decide +kernel)) ggX1_daysTillAllRide_X1_runDay
theorem dX1_daysTillAllRide_0 : decode cX1_daysTillAllRide 0 = .ok (.iconst 0, 1) := by decide +kernel
theorem dX1_daysTillAllRide_1 : decode cX1_daysTillAllRide 1 = .ok (.istore_n 2, 1) := by decide +kernel
theorem dX1_daysTillAllRide_2 : decode cX1_daysTillAllRide 2 = .ok (.iload_n 2, 1) := by decide +kernel
theorem dX1_daysTillAllRide_3 : decode cX1_daysTillAllRide 3 = .ok (.iload_n 1, 1) := by decide +kernel
theorem dX1_daysTillAllRide_4 : decode cX1_daysTillAllRide 4 = .ok (.if_icmp .gt 27, 3) := by decide +kernel
theorem dX1_daysTillAllRide_7 : decode cX1_daysTillAllRide 7 = .ok (.aload_n 0, 1) := by decide +kernel
theorem dX1_daysTillAllRide_8 : decode cX1_daysTillAllRide 8 = .ok (.invokevirtual 109, 3) := by decide +kernel
theorem dX1_daysTillAllRide_11 : decode cX1_daysTillAllRide 11 = .ok (.ifCond .ne 5, 3) := by decide +kernel
theorem dX1_daysTillAllRide_14 : decode cX1_daysTillAllRide 14 = .ok (.iload_n 2, 1) := by decide +kernel
theorem dX1_daysTillAllRide_15 : decode cX1_daysTillAllRide 15 = .ok (.ireturn, 1) := by decide +kernel
theorem dX1_daysTillAllRide_16 : decode cX1_daysTillAllRide 16 = .ok (.aload_n 0, 1) := by decide +kernel
theorem dX1_daysTillAllRide_17 : decode cX1_daysTillAllRide 17 = .ok (.aload_n 0, 1) := by decide +kernel
theorem dX1_daysTillAllRide_18 : decode cX1_daysTillAllRide 18 = .ok (.getfield 31, 3) := by decide +kernel
theorem dX1_daysTillAllRide_21 : decode cX1_daysTillAllRide 21 = .ok (.invokevirtual 97, 3) := by decide +kernel
theorem dX1_daysTillAllRide_24 : decode cX1_daysTillAllRide 24 = .ok (.pop, 1) := by decide +kernel
theorem dX1_daysTillAllRide_25 : decode cX1_daysTillAllRide 25 = .ok (.iinc 2 1, 3) := by decide +kernel
theorem dX1_daysTillAllRide_28 : decode cX1_daysTillAllRide 28 = .ok (.goto (-26), 3) := by decide +kernel
theorem dX1_daysTillAllRide_31 : decode cX1_daysTillAllRide 31 = .ok (.bipush (-4), 2) := by decide +kernel
theorem dX1_daysTillAllRide_33 : decode cX1_daysTillAllRide 33 = .ok (.ireturn, 1) := by decide +kernel
set_option maxRecDepth 20000 in
theorem ggX2_init_X1_init : GoodIn wsX2_init wsX1_init := goodIn_r _ [9, 10, 2, 3, 11, 12, 13, 14, 15, 17, 18, 19, 20, 21, 22, 23] (by decide +kernel) (by decide +kernel)
set_option maxRecDepth 20000 in
theorem gX2_init_X1_init_n17 : GoodIn wsX2_init (wsX1_init) := ggX2_init_X1_init
theorem dX2_init_0 : decode cX2_init 0 = .ok (.aload_n 0, 1) := by decide +kernel
theorem dX2_init_1 : decode cX2_init 1 = .ok (.invokespecial 3, 3) := by decide +kernel
theorem dX2_init_4 : decode cX2_init 4 = .ok (.aload_n 0, 1) := by decide +kernel
theorem dX2_init_5 : decode cX2_init 5 = .ok (.bipush 9, 2) := by decide +kernel
theorem dX2_init_7 : decode cX2_init 7 = .ok (.anewarray 9, 3) := by decide +kernel
theorem dX2_init_10 : decode cX2_init 10 = .ok (.putfield 11, 3) := by decide +kernel
theorem dX2_init_13 : decode cX2_init 13 = .ok (.iconst 0, 1) := by decide +kernel
theorem dX2_init_14 : decode cX2_init 14 = .ok (.istore_n 1, 1) := by decide +kernel
theorem dX2_init_15 : decode cX2_init 15 = .ok (.iload_n 1, 1) := by decide +kernel
theorem dX2_init_16 : decode cX2_init 16 = .ok (.aload_n 0, 1) := by decide +kernel
theorem dX2_init_17 : decode cX2_init 17 = .ok (.getfield 11, 3) := by decide +kernel
theorem dX2_init_20 : decode cX2_init 20 = .ok (.arraylength, 1) := by decide +kernel
theorem dX2_init_21 : decode cX2_init 21 = .ok (.if_icmp .ge 22, 3) := by decide +kernel
theorem dX2_init_24 : decode cX2_init 24 = .ok (.aload_n 0, 1) := by decide +kernel
theorem dX2_init_25 : decode cX2_init 25 = .ok (.getfield 11, 3) := by decide +kernel
theorem dX2_init_28 : decode cX2_init 28 = .ok (.iload_n 1, 1) := by decide +kernel
theorem dX2_init_29 : decode cX2_init 29 = .ok (.new 9, 3) := by decide +kernel
theorem dX2_init_32 : decode cX2_init 32 = .ok (.dup, 1) := by decide +kernel
theorem dX2_init_33 : decode cX2_init 33 = .ok (.invokespecial 17, 3) := by decide +kernel
theorem dX2_init_36 : decode cX2_init 36 = .ok (.aastore, 1) := by decide +kernel
theorem dX2_init_37 : decode cX2_init 37 = .ok (.iinc 1 1, 3) := by decide +kernel
theorem dX2_init_40 : decode cX2_init 40 = .ok (.goto (-25), 3) := by decide +kernel
theorem dX2_init_43 : decode cX2_init 43 = .ok (.return_, 1) := by decide +kernel
set_option maxRecDepth 20000 in
theorem ggX2_fractionOf_X1_become : GoodIn wsX2_fractionOf wsX1_become := goodIn_r _ [11, 12, 13, 14, 15, 16, 17, 18, 19, 20, 21, 22, 82, 83, 84, 85, 86, 87, 88] (by decide +kernel) (by decide +kernel)
set_option maxRecDepth 20000 in
theorem gX2_fractionOf_X1_become : GoodIn wsX2_fractionOf (wsV RX2 18 RX1 yX1_become wsX1_become) := goodIn_app (goodIn_of _ (by decide +kernel)) ggX2_fractionOf_X1_become
set_option maxRecDepth 20000 in
theorem ggX2_fractionOf_X2_weighed : GoodIn wsX2_fractionOf wsX2_weighed := goodIn_r _ [27, 1, 28, 29, 30, 26, 31, 32, 33, 34, 10, 35, 12, 36, 37, 38, 39, 22, 40, 41, 42, 43, 7, 8, 9, 11, 13, 14, 15, 16, 17, 18, 19, 20, 21, 44, 45, 46, 47, 48, 49, 5, 50, 51, 52, 53, 54, 55, 56, 57, 58, 59, 60, 61, 62, 63, 64, 65, 66, 67, 68, 69, 70, 71, 72, 73, 74, 75, 76, 77, 23, 24, 25, 81, 82, 83, 84, 85, 86, 87, 88] (by decide +kernel) (by decide +kernel)
set_option maxRecDepth 20000 in
theorem gX2_fractionOf_X2_weighed : GoodIn wsX2_fractionOf (wsV RX2 22 RX2 yX2_weighed wsX2_weighed) := goodIn_app (goodIn_of _ (by decide +kernel)) ggX2_fractionOf_X2_weighed
set_option maxRecDepth 20000 in
theorem ggX2_fractionOf_X2_commonDivisor : GoodIn wsX2_fractionOf wsX2_commonDivisor := goodIn_r _ [80] (by decide +kernel) (by decide +kernel)
set_option maxRecDepth 20000 in
theorem gX2_fractionOf_X2_commonDivisor : GoodIn wsX2_fractionOf (va_wsS RX2 28 yX2_commonDivisor wsX2_commonDivisor) := goodIn_app (goodIn_of _ (by decide +kernel)) ggX2_fractionOf_X2_commonDivisor
theorem dX2_fractionOf_0 : decode cX2_fractionOf 0 = .ok (.aload_n 0, 1) := by decide +kernel
theorem dX2_fractionOf_1 : decode cX2_fractionOf 1 = .ok (.getfield 11, 3) := by decide +kernel
theorem dX2_fractionOf_4 : decode cX2_fractionOf 4 = .ok (.iconst 0, 1) := by decide +kernel
theorem dX2_fractionOf_5 : decode cX2_fractionOf 5 = .ok (.aaload, 1) := by decide +kernel
theorem dX2_fractionOf_6 : decode cX2_fractionOf 6 = .ok (.aload_n 1, 1) := by decide +kernel
theorem dX2_fractionOf_7 : decode cX2_fractionOf 7 = .ok (.invokevirtual 18, 3) := by decide +kernel
theorem dX2_fractionOf_10 : decode cX2_fractionOf 10 = .ok (.aload_n 0, 1) := by decide +kernel
theorem dX2_fractionOf_11 : decode cX2_fractionOf 11 = .ok (.iconst 0, 1) := by decide +kernel
theorem dX2_fractionOf_12 : decode cX2_fractionOf 12 = .ok (.iload_n 2, 1) := by decide +kernel
theorem dX2_fractionOf_13 : decode cX2_fractionOf 13 = .ok (.iload_n 3, 1) := by decide +kernel
theorem dX2_fractionOf_14 : decode cX2_fractionOf 14 = .ok (.iload 4, 2) := by decide +kernel
theorem dX2_fractionOf_16 : decode cX2_fractionOf 16 = .ok (.invokevirtual 22, 3) := by decide +kernel
theorem dX2_fractionOf_19 : decode cX2_fractionOf 19 = .ok (.lstore 6, 2) := by decide +kernel
theorem dX2_fractionOf_21 : decode cX2_fractionOf 21 = .ok (.lconst 1, 1) := by decide +kernel
theorem dX2_fractionOf_22 : decode cX2_fractionOf 22 = .ok (.lstore 8, 2) := by decide +kernel
theorem dX2_fractionOf_24 : decode cX2_fractionOf 24 = .ok (.iconst 0, 1) := by decide +kernel
theorem dX2_fractionOf_25 : decode cX2_fractionOf 25 = .ok (.istore 10, 2) := by decide +kernel
theorem dX2_fractionOf_27 : decode cX2_fractionOf 27 = .ok (.iload 10, 2) := by decide +kernel
theorem dX2_fractionOf_29 : decode cX2_fractionOf 29 = .ok (.iload 4, 2) := by decide +kernel
theorem dX2_fractionOf_31 : decode cX2_fractionOf 31 = .ok (.if_icmp .ge 17, 3) := by decide +kernel
theorem dX2_fractionOf_34 : decode cX2_fractionOf 34 = .ok (.lload 8, 2) := by decide +kernel
theorem dX2_fractionOf_36 : decode cX2_fractionOf 36 = .ok (.ldc2_w 26, 3) := by decide +kernel
theorem dX2_fractionOf_39 : decode cX2_fractionOf 39 = .ok (.lmul, 1) := by decide +kernel
theorem dX2_fractionOf_40 : decode cX2_fractionOf 40 = .ok (.lstore 8, 2) := by decide +kernel
theorem dX2_fractionOf_42 : decode cX2_fractionOf 42 = .ok (.iinc 10 1, 3) := by decide +kernel
theorem dX2_fractionOf_45 : decode cX2_fractionOf 45 = .ok (.goto (-18), 3) := by decide +kernel
theorem dX2_fractionOf_48 : decode cX2_fractionOf 48 = .ok (.lconst 1, 1) := by decide +kernel
theorem dX2_fractionOf_49 : decode cX2_fractionOf 49 = .ok (.lload 8, 2) := by decide +kernel
theorem dX2_fractionOf_51 : decode cX2_fractionOf 51 = .ok (.lload 6, 2) := by decide +kernel
theorem dX2_fractionOf_53 : decode cX2_fractionOf 53 = .ok (.invokestatic 28, 3) := by decide +kernel
theorem dX2_fractionOf_56 : decode cX2_fractionOf 56 = .ok (.invokestatic 32, 3) := by decide +kernel
theorem dX2_fractionOf_59 : decode cX2_fractionOf 59 = .ok (.lstore 10, 2) := by decide +kernel
theorem dX2_fractionOf_61 : decode cX2_fractionOf 61 = .ok (.iload 5, 2) := by decide +kernel
theorem dX2_fractionOf_63 : decode cX2_fractionOf 63 = .ok (.ifCond .ne 8, 3) := by decide +kernel
theorem dX2_fractionOf_66 : decode cX2_fractionOf 66 = .ok (.lload 6, 2) := by decide +kernel
theorem dX2_fractionOf_68 : decode cX2_fractionOf 68 = .ok (.goto 5, 3) := by decide +kernel
theorem dX2_fractionOf_71 : decode cX2_fractionOf 71 = .ok (.lload 8, 2) := by decide +kernel
theorem dX2_fractionOf_73 : decode cX2_fractionOf 73 = .ok (.lload 10, 2) := by decide +kernel
theorem dX2_fractionOf_75 : decode cX2_fractionOf 75 = .ok (.ldiv, 1) := by decide +kernel
theorem dX2_fractionOf_76 : decode cX2_fractionOf 76 = .ok (.lreturn, 1) := by decide +kernel
set_option maxRecDepth 20000 in
theorem ggX2_weighed_X2_worth : GoodIn wsX2_weighed wsX2_worth := goodIn_r _ [6, 7, 8, 9, 10, 11, 12, 13, 14, 15, 16, 17, 18, 19, 20, 21, 74, 75, 76, 77, 78, 79, 80] (by decide +kernel) (by decide +kernel)
set_option maxRecDepth 20000 in
theorem gX2_weighed_X2_worth : GoodIn wsX2_weighed (va_wsS RX2 37 yX2_worth wsX2_worth) := goodIn_app (goodIn_of _ (by decide +kernel)) ggX2_weighed_X2_worth
set_option maxRecDepth 20000 in
theorem ggX2_weighed_X1_become : GoodIn wsX2_weighed wsX1_become := goodIn_r _ [25, 12, 26, 27, 28, 29, 30, 31, 32, 33, 34, 17, 74, 75, 76, 77, 78, 79, 80] (by decide +kernel) (by decide +kernel)
set_option maxRecDepth 20000 in
theorem gX2_weighed_X1_become : GoodIn wsX2_weighed (wsV RX2 18 RX1 yX1_become wsX1_become) := goodIn_app (goodIn_of _ (by decide +kernel)) ggX2_weighed_X1_become
set_option maxRecDepth 20000 in
theorem ggX2_weighed_X1_runDay : GoodIn wsX2_weighed wsX1_runDay := goodIn_r _ [38, 12, 34, 39, 40, 41, 42, 26, 43, 44, 45, 10, 46, 33, 47, 48, 49, 50, 51, 52, 53, 54, 55, 56, 57, 28, 13, 14, 15, 16, 17, 58, 59, 60, 61, 62, 63, 64, 65, 66, 67, 68, 69, 74, 75, 76, 77, 78, 79, 80] (by decide +kernel) (by decide +kernel)
set_option maxRecDepth 20000 in
theorem gX2_weighed_X1_runDay : GoodIn wsX2_weighed (wsV RX2 45 RX1 yX1_runDay wsX1_runDay) := goodIn_app (goodIn_of _ (by decide +kernel)) ggX2_weighed_X1_runDay
set_option maxRecDepth 20000 in
theorem ggX2_weighed_X2_weighed : GoodIn wsX2_weighed wsX2_weighed := goodIn_r _ [0, 1, 2, 3, 4, 5, 6, 7, 8, 9, 10, 11, 12, 13, 14, 15, 16, 17, 18, 19, 20, 21, 22, 23, 24, 25, 26, 27, 28, 29, 30, 31, 32, 33, 34, 35, 36, 37, 38, 39, 40, 41, 42, 43, 44, 45, 46, 47, 48, 49, 50, 51, 52, 53, 54, 55, 56, 57, 58, 59, 60, 61, 62, 63, 64, 65, 66, 67, 68, 69, 70, 71, 72, 73, 74, 75, 76, 77, 78, 79, 80] (by decide +kernel) (by decide +kernel)
set_option maxRecDepth 20000 in
theorem gX2_weighed_X2_weighed : GoodIn wsX2_weighed (wsV RX2 22 RX2 yX2_weighed wsX2_weighed) := goodIn_app (goodIn_of _ (by decide +kernel)) ggX2_weighed_X2_weighed
theorem dX2_weighed_0 : decode cX2_weighed 0 = .ok (.iload_n 1, 1) := by decide +kernel
theorem dX2_weighed_1 : decode cX2_weighed 1 = .ok (.iload 4, 2) := by decide +kernel
theorem dX2_weighed_3 : decode cX2_weighed 3 = .ok (.if_icmp .ge 14, 3) := by decide +kernel
theorem dX2_weighed_6 : decode cX2_weighed 6 = .ok (.iload_n 1, 1) := by decide +kernel
theorem dX2_weighed_7 : decode cX2_weighed 7 = .ok (.iconst 1, 1) := by decide +kernel
theorem dX2_weighed_8 : decode cX2_weighed 8 = .ok (.iadd, 1) := by decide +kernel
theorem dX2_weighed_9 : decode cX2_weighed 9 = .ok (.aload_n 0, 1) := by decide +kernel
theorem dX2_weighed_10 : decode cX2_weighed 10 = .ok (.getfield 11, 3) := by decide +kernel
theorem dX2_weighed_13 : decode cX2_weighed 13 = .ok (.arraylength, 1) := by decide +kernel
theorem dX2_weighed_14 : decode cX2_weighed 14 = .ok (.if_icmp .lt 14, 3) := by decide +kernel
theorem dX2_weighed_17 : decode cX2_weighed 17 = .ok (.aload_n 0, 1) := by decide +kernel
theorem dX2_weighed_18 : decode cX2_weighed 18 = .ok (.getfield 11, 3) := by decide +kernel
theorem dX2_weighed_21 : decode cX2_weighed 21 = .ok (.iload_n 1, 1) := by decide +kernel
theorem dX2_weighed_22 : decode cX2_weighed 22 = .ok (.aaload, 1) := by decide +kernel
theorem dX2_weighed_23 : decode cX2_weighed 23 = .ok (.iload_n 3, 1) := by decide +kernel
theorem dX2_weighed_24 : decode cX2_weighed 24 = .ok (.invokestatic 37, 3) := by decide +kernel
theorem dX2_weighed_27 : decode cX2_weighed 27 = .ok (.lreturn, 1) := by decide +kernel
theorem dX2_weighed_28 : decode cX2_weighed 28 = .ok (.lconst 0, 1) := by decide +kernel
theorem dX2_weighed_29 : decode cX2_weighed 29 = .ok (.lstore 5, 2) := by decide +kernel
theorem dX2_weighed_31 : decode cX2_weighed 31 = .ok (.aload_n 0, 1) := by decide +kernel
theorem dX2_weighed_32 : decode cX2_weighed 32 = .ok (.getfield 11, 3) := by decide +kernel
theorem dX2_weighed_35 : decode cX2_weighed 35 = .ok (.iload_n 1, 1) := by decide +kernel
theorem dX2_weighed_36 : decode cX2_weighed 36 = .ok (.iconst 1, 1) := by decide +kernel
theorem dX2_weighed_37 : decode cX2_weighed 37 = .ok (.iadd, 1) := by decide +kernel
theorem dX2_weighed_38 : decode cX2_weighed 38 = .ok (.aaload, 1) := by decide +kernel
theorem dX2_weighed_39 : decode cX2_weighed 39 = .ok (.astore 7, 2) := by decide +kernel
theorem dX2_weighed_41 : decode cX2_weighed 41 = .ok (.iconst 0, 1) := by decide +kernel
theorem dX2_weighed_42 : decode cX2_weighed 42 = .ok (.istore 8, 2) := by decide +kernel
theorem dX2_weighed_44 : decode cX2_weighed 44 = .ok (.iload 8, 2) := by decide +kernel
theorem dX2_weighed_46 : decode cX2_weighed 46 = .ok (.iconst 2, 1) := by decide +kernel
theorem dX2_weighed_47 : decode cX2_weighed 47 = .ok (.if_icmp .ge 81, 3) := by decide +kernel
theorem dX2_weighed_50 : decode cX2_weighed 50 = .ok (.iload 8, 2) := by decide +kernel
theorem dX2_weighed_52 : decode cX2_weighed 52 = .ok (.ifCond .ne 7, 3) := by decide +kernel
theorem dX2_weighed_55 : decode cX2_weighed 55 = .ok (.iload_n 2, 1) := by decide +kernel
theorem dX2_weighed_56 : decode cX2_weighed 56 = .ok (.goto 7, 3) := by decide +kernel
theorem dX2_weighed_59 : decode cX2_weighed 59 = .ok (.bipush 10, 2) := by decide +kernel
theorem dX2_weighed_61 : decode cX2_weighed 61 = .ok (.iload_n 2, 1) := by decide +kernel
theorem dX2_weighed_62 : decode cX2_weighed 62 = .ok (.isub, 1) := by decide +kernel
theorem dX2_weighed_63 : decode cX2_weighed 63 = .ok (.istore 9, 2) := by decide +kernel
theorem dX2_weighed_65 : decode cX2_weighed 65 = .ok (.iload 9, 2) := by decide +kernel
theorem dX2_weighed_67 : decode cX2_weighed 67 = .ok (.ifCond .le 55, 3) := by decide +kernel
theorem dX2_weighed_70 : decode cX2_weighed 70 = .ok (.aload 7, 2) := by decide +kernel
theorem dX2_weighed_72 : decode cX2_weighed 72 = .ok (.aload_n 0, 1) := by decide +kernel
theorem dX2_weighed_73 : decode cX2_weighed 73 = .ok (.getfield 11, 3) := by decide +kernel
theorem dX2_weighed_76 : decode cX2_weighed 76 = .ok (.iload_n 1, 1) := by decide +kernel
theorem dX2_weighed_77 : decode cX2_weighed 77 = .ok (.aaload, 1) := by decide +kernel
theorem dX2_weighed_78 : decode cX2_weighed 78 = .ok (.invokevirtual 18, 3) := by decide +kernel
theorem dX2_weighed_81 : decode cX2_weighed 81 = .ok (.aload 7, 2) := by decide +kernel
theorem dX2_weighed_83 : decode cX2_weighed 83 = .ok (.iload 8, 2) := by decide +kernel
theorem dX2_weighed_85 : decode cX2_weighed 85 = .ok (.ifCond .ne 8, 3) := by decide +kernel
theorem dX2_weighed_88 : decode cX2_weighed 88 = .ok (.bipush 9, 2) := by decide +kernel
theorem dX2_weighed_90 : decode cX2_weighed 90 = .ok (.goto 8, 3) := by decide +kernel
theorem dX2_weighed_93 : decode cX2_weighed 93 = .ok (.aload 7, 2) := by decide +kernel
theorem dX2_weighed_95 : decode cX2_weighed 95 = .ok (.getfield 41, 3) := by decide +kernel
theorem dX2_weighed_98 : decode cX2_weighed 98 = .ok (.invokevirtual 45, 3) := by decide +kernel
theorem dX2_weighed_101 : decode cX2_weighed 101 = .ok (.pop, 1) := by decide +kernel
theorem dX2_weighed_102 : decode cX2_weighed 102 = .ok (.lload 5, 2) := by decide +kernel
theorem dX2_weighed_104 : decode cX2_weighed 104 = .ok (.iload 9, 2) := by decide +kernel
theorem dX2_weighed_106 : decode cX2_weighed 106 = .ok (.i2l, 1) := by decide +kernel
theorem dX2_weighed_107 : decode cX2_weighed 107 = .ok (.aload_n 0, 1) := by decide +kernel
theorem dX2_weighed_108 : decode cX2_weighed 108 = .ok (.iload_n 1, 1) := by decide +kernel
theorem dX2_weighed_109 : decode cX2_weighed 109 = .ok (.iconst 1, 1) := by decide +kernel
theorem dX2_weighed_110 : decode cX2_weighed 110 = .ok (.iadd, 1) := by decide +kernel
theorem dX2_weighed_111 : decode cX2_weighed 111 = .ok (.iload_n 2, 1) := by decide +kernel
theorem dX2_weighed_112 : decode cX2_weighed 112 = .ok (.iload_n 3, 1) := by decide +kernel
theorem dX2_weighed_113 : decode cX2_weighed 113 = .ok (.iload 4, 2) := by decide +kernel
theorem dX2_weighed_115 : decode cX2_weighed 115 = .ok (.invokevirtual 22, 3) := by decide +kernel
theorem dX2_weighed_118 : decode cX2_weighed 118 = .ok (.lmul, 1) := by decide +kernel
theorem dX2_weighed_119 : decode cX2_weighed 119 = .ok (.ladd, 1) := by decide +kernel
theorem dX2_weighed_120 : decode cX2_weighed 120 = .ok (.lstore 5, 2) := by decide +kernel
theorem dX2_weighed_122 : decode cX2_weighed 122 = .ok (.iinc 8 1, 3) := by decide +kernel
theorem dX2_weighed_125 : decode cX2_weighed 125 = .ok (.goto (-81), 3) := by decide +kernel
theorem dX2_weighed_128 : decode cX2_weighed 128 = .ok (.lload 5, 2) := by decide +kernel
theorem dX2_weighed_130 : decode cX2_weighed 130 = .ok (.lreturn, 1) := by decide +kernel
set_option maxRecDepth 20000 in
theorem ggX2_worth_X1_owedInAll : GoodIn wsX2_worth wsX1_owedInAll := goodIn_r _ [5, 6, 7, 8, 9, 4, 10, 11, 16, 17, 18, 19, 20, 21, 22] (by decide +kernel) (by decide +kernel)
set_option maxRecDepth 20000 in
theorem gX2_worth_X1_owedInAll : GoodIn wsX2_worth (wsV RX2 49 RX1 yX1_owedInAll wsX1_owedInAll) := goodIn_app (goodIn_of _ (by decide +kernel)) ggX2_worth_X1_owedInAll
set_option maxRecDepth 20000 in
theorem ggX2_worth_X1_isRiding : GoodIn wsX2_worth wsX1_isRiding := goodIn_r _ [15, 7, 8, 9, 4, 10, 6, 11, 16, 17, 18, 19, 20, 21, 22] (by decide +kernel) (by decide +kernel)
set_option maxRecDepth 20000 in
theorem gX2_worth_X1_isRiding : GoodIn wsX2_worth (wsV RX2 53 RX1 yX1_isRiding wsX1_isRiding) := goodIn_app (goodIn_of _ (by decide +kernel)) ggX2_worth_X1_isRiding
theorem dX2_worth_0 : decode cX2_worth 0 = .ok (.iload_n 1, 1) := by decide +kernel
theorem dX2_worth_1 : decode cX2_worth 1 = .ok (.iconst (-1), 1) := by decide +kernel
theorem dX2_worth_2 : decode cX2_worth 2 = .ok (.if_icmp .ne 9, 3) := by decide +kernel
theorem dX2_worth_5 : decode cX2_worth 5 = .ok (.aload_n 0, 1) := by decide +kernel
theorem dX2_worth_6 : decode cX2_worth 6 = .ok (.invokevirtual 49, 3) := by decide +kernel
theorem dX2_worth_9 : decode cX2_worth 9 = .ok (.i2l, 1) := by decide +kernel
theorem dX2_worth_10 : decode cX2_worth 10 = .ok (.lreturn, 1) := by decide +kernel
theorem dX2_worth_11 : decode cX2_worth 11 = .ok (.aload_n 0, 1) := by decide +kernel
theorem dX2_worth_12 : decode cX2_worth 12 = .ok (.iload_n 1, 1) := by decide +kernel
theorem dX2_worth_13 : decode cX2_worth 13 = .ok (.invokevirtual 53, 3) := by decide +kernel
theorem dX2_worth_16 : decode cX2_worth 16 = .ok (.ifCond .eq 7, 3) := by decide +kernel
theorem dX2_worth_19 : decode cX2_worth 19 = .ok (.lconst 1, 1) := by decide +kernel
theorem dX2_worth_20 : decode cX2_worth 20 = .ok (.goto 4, 3) := by decide +kernel
theorem dX2_worth_23 : decode cX2_worth 23 = .ok (.lconst 0, 1) := by decide +kernel
theorem dX2_worth_24 : decode cX2_worth 24 = .ok (.lreturn, 1) := by decide +kernel
theorem dX2_commonDivisor_0 : decode cX2_commonDivisor 0 = .ok (.lload_n 0, 1) := by decide +kernel
theorem dX2_commonDivisor_1 : decode cX2_commonDivisor 1 = .ok (.lstore 4, 2) := by decide +kernel
theorem dX2_commonDivisor_3 : decode cX2_commonDivisor 3 = .ok (.lload_n 2, 1) := by decide +kernel
theorem dX2_commonDivisor_4 : decode cX2_commonDivisor 4 = .ok (.lstore 6, 2) := by decide +kernel
theorem dX2_commonDivisor_6 : decode cX2_commonDivisor 6 = .ok (.iconst 0, 1) := by decide +kernel
theorem dX2_commonDivisor_7 : decode cX2_commonDivisor 7 = .ok (.istore 8, 2) := by decide +kernel
theorem dX2_commonDivisor_9 : decode cX2_commonDivisor 9 = .ok (.iload 8, 2) := by decide +kernel
theorem dX2_commonDivisor_11 : decode cX2_commonDivisor 11 = .ok (.bipush 100, 2) := by decide +kernel
theorem dX2_commonDivisor_13 : decode cX2_commonDivisor 13 = .ok (.if_icmp .ge 31, 3) := by decide +kernel
theorem dX2_commonDivisor_16 : decode cX2_commonDivisor 16 = .ok (.lload 6, 2) := by decide +kernel
theorem dX2_commonDivisor_18 : decode cX2_commonDivisor 18 = .ok (.lconst 0, 1) := by decide +kernel
theorem dX2_commonDivisor_19 : decode cX2_commonDivisor 19 = .ok (.lcmp, 1) := by decide +kernel
theorem dX2_commonDivisor_20 : decode cX2_commonDivisor 20 = .ok (.ifCond .eq 24, 3) := by decide +kernel
theorem dX2_commonDivisor_23 : decode cX2_commonDivisor 23 = .ok (.lload 4, 2) := by decide +kernel
theorem dX2_commonDivisor_25 : decode cX2_commonDivisor 25 = .ok (.lload 6, 2) := by decide +kernel
theorem dX2_commonDivisor_27 : decode cX2_commonDivisor 27 = .ok (.lrem, 1) := by decide +kernel
theorem dX2_commonDivisor_28 : decode cX2_commonDivisor 28 = .ok (.lstore 9, 2) := by decide +kernel
theorem dX2_commonDivisor_30 : decode cX2_commonDivisor 30 = .ok (.lload 6, 2) := by decide +kernel
theorem dX2_commonDivisor_32 : decode cX2_commonDivisor 32 = .ok (.lstore 4, 2) := by decide +kernel
theorem dX2_commonDivisor_34 : decode cX2_commonDivisor 34 = .ok (.lload 9, 2) := by decide +kernel
theorem dX2_commonDivisor_36 : decode cX2_commonDivisor 36 = .ok (.lstore 6, 2) := by decide +kernel
theorem dX2_commonDivisor_38 : decode cX2_commonDivisor 38 = .ok (.iinc 8 1, 3) := by decide +kernel
theorem dX2_commonDivisor_41 : decode cX2_commonDivisor 41 = .ok (.goto (-32), 3) := by decide +kernel
theorem dX2_commonDivisor_44 : decode cX2_commonDivisor 44 = .ok (.lload 4, 2) := by decide +kernel
theorem dX2_commonDivisor_46 : decode cX2_commonDivisor 46 = .ok (.lreturn, 1) := by decide +kernel
set_option maxRecDepth 20000 in
theorem ggX3_init_X1_init : GoodIn wsX3_init wsX1_init := goodIn_r _ [11, 12, 2, 3, 4, 13, 14, 15, 16, 29, 30, 31, 32, 33, 34, 35] (by decide +kernel) (by decide +kernel)
set_option maxRecDepth 20000 in
theorem gX3_init_X1_init_n17 : GoodIn wsX3_init (wsX1_init) := ggX3_init_X1_init
theorem dX3_init_0 : decode cX3_init 0 = .ok (.aload_n 0, 1) := by decide +kernel
theorem dX3_init_1 : decode cX3_init 1 = .ok (.invokespecial 3, 3) := by decide +kernel
theorem dX3_init_4 : decode cX3_init 4 = .ok (.aload_n 0, 1) := by decide +kernel
theorem dX3_init_5 : decode cX3_init 5 = .ok (.sipush 160, 3) := by decide +kernel
theorem dX3_init_8 : decode cX3_init 8 = .ok (.newarray .int, 2) := by decide +kernel
theorem dX3_init_10 : decode cX3_init 10 = .ok (.putfield 9, 3) := by decide +kernel
theorem dX3_init_13 : decode cX3_init 13 = .ok (.aload_n 0, 1) := by decide +kernel
theorem dX3_init_14 : decode cX3_init 14 = .ok (.new 15, 3) := by decide +kernel
theorem dX3_init_17 : decode cX3_init 17 = .ok (.dup, 1) := by decide +kernel
theorem dX3_init_18 : decode cX3_init 18 = .ok (.invokespecial 17, 3) := by decide +kernel
theorem dX3_init_21 : decode cX3_init 21 = .ok (.putfield 18, 3) := by decide +kernel
theorem dX3_init_24 : decode cX3_init 24 = .ok (.return_, 1) := by decide +kernel
set_option maxRecDepth 20000 in
theorem ggX3_takeAll_X1_empty : GoodIn wsX3_takeAll wsX1_empty := goodIn_r _ [14, 15, 16, 17, 18, 19, 20, 21, 22, 156, 157, 158, 159, 160, 161, 162] (by decide +kernel) (by decide +kernel)
set_option maxRecDepth 20000 in
theorem gX3_takeAll_X1_empty : GoodIn wsX3_takeAll (wsV RX3 22 RX1 yX1_empty wsX1_empty) := goodIn_app (goodIn_of _ (by decide +kernel)) ggX3_takeAll_X1_empty
set_option maxRecDepth 20000 in
theorem ggX3_takeAll_X3_next : GoodIn wsX3_takeAll wsX3_next := goodIn_r _ [27, 5, 8, 28, 29, 9, 30, 31, 32, 26, 33, 34, 35, 36, 37, 3, 4, 144, 145, 146, 147, 148, 149, 150, 151, 152, 153, 154, 155] (by decide +kernel) (by decide +kernel)
set_option maxRecDepth 20000 in
theorem gX3_takeAll_X3_next : GoodIn wsX3_takeAll (wsV RX3 45 RX3 yX3_next wsX3_next) := goodIn_app (goodIn_of _ (by decide +kernel)) ggX3_takeAll_X3_next
set_option maxRecDepth 20000 in
theorem ggX3_takeAll_X3_takeLine : GoodIn wsX3_takeAll wsX3_takeLine := goodIn_r _ [41, 29, 2, 42, 43, 44, 26, 45, 46, 47, 48, 49, 9, 5, 28, 50, 51, 52, 53, 54, 55, 56, 57, 58, 59, 60, 61, 62, 63, 64, 65, 66, 67, 68, 69, 70, 71, 72, 73, 74, 75, 76, 77, 78, 79, 80, 81, 82, 83, 84, 85, 86, 87, 88, 89, 90, 91, 92, 93, 94, 95, 96, 97, 98, 99, 100, 101, 102, 1, 103, 104, 105, 106, 107, 34, 35, 36, 37, 3, 4, 108, 109, 110, 111, 23, 24, 25, 27, 8, 30, 31, 32, 33, 112, 113, 114, 115, 116, 117, 118, 119, 120, 121, 122, 7, 123, 124, 125, 126, 127, 128, 129, 13, 130, 18, 131, 132, 133, 134, 135, 136, 137, 138, 6, 139, 144, 145, 146, 147, 148, 149, 150, 151, 152, 153, 154, 155, 156, 157, 158, 159, 160, 161, 162] (by decide +kernel) (by decide +kernel)
set_option maxRecDepth 20000 in
theorem gX3_takeAll_X3_takeLine : GoodIn wsX3_takeAll (wsV RX3 55 RX3 yX3_takeLine wsX3_takeLine) := goodIn_app (goodIn_of _ (by decide +kernel)) ggX3_takeAll_X3_takeLine
set_option maxRecDepth 20000 in
theorem ggX3_takeAll_X3_everyoneIsThere : GoodIn wsX3_takeAll wsX3_everyoneIsThere := goodIn_r _ [143, 7, 1, 103, 8, 34, 35, 36, 26, 37, 3, 4, 144, 145, 146, 147, 148, 149, 150, 151, 152, 153, 154, 155, 156, 157, 158, 159, 160, 161, 162] (by decide +kernel) (by decide +kernel)
set_option maxRecDepth 20000 in
theorem gX3_takeAll_X3_everyoneIsThere : GoodIn wsX3_takeAll (wsV RX3 58 RX3 yX3_everyoneIsThere wsX3_everyoneIsThere) := goodIn_app (goodIn_of _ (by decide +kernel)) ggX3_takeAll_X3_everyoneIsThere
theorem dX3_takeAll_0 : decode cX3_takeAll 0 = .ok (.aload_n 0, 1) := by decide +kernel
theorem dX3_takeAll_1 : decode cX3_takeAll 1 = .ok (.getfield 18, 3) := by decide +kernel
theorem dX3_takeAll_4 : decode cX3_takeAll 4 = .ok (.invokevirtual 22, 3) := by decide +kernel
theorem dX3_takeAll_7 : decode cX3_takeAll 7 = .ok (.aload_n 0, 1) := by decide +kernel
theorem dX3_takeAll_8 : decode cX3_takeAll 8 = .ok (.iconst 0, 1) := by decide +kernel
theorem dX3_takeAll_9 : decode cX3_takeAll 9 = .ok (.putfield 25, 3) := by decide +kernel
theorem dX3_takeAll_12 : decode cX3_takeAll 12 = .ok (.aload_n 0, 1) := by decide +kernel
theorem dX3_takeAll_13 : decode cX3_takeAll 13 = .ok (.iconst 0, 1) := by decide +kernel
theorem dX3_takeAll_14 : decode cX3_takeAll 14 = .ok (.putfield 29, 3) := by decide +kernel
theorem dX3_takeAll_17 : decode cX3_takeAll 17 = .ok (.aload_n 0, 1) := by decide +kernel
theorem dX3_takeAll_18 : decode cX3_takeAll 18 = .ok (.iconst 0, 1) := by decide +kernel
theorem dX3_takeAll_19 : decode cX3_takeAll 19 = .ok (.putfield 32, 3) := by decide +kernel
theorem dX3_takeAll_22 : decode cX3_takeAll 22 = .ok (.aload_n 0, 1) := by decide +kernel
theorem dX3_takeAll_23 : decode cX3_takeAll 23 = .ok (.iconst 0, 1) := by decide +kernel
theorem dX3_takeAll_24 : decode cX3_takeAll 24 = .ok (.putfield 35, 3) := by decide +kernel
theorem dX3_takeAll_27 : decode cX3_takeAll 27 = .ok (.aload_n 0, 1) := by decide +kernel
theorem dX3_takeAll_28 : decode cX3_takeAll 28 = .ok (.iconst 0, 1) := by decide +kernel
theorem dX3_takeAll_29 : decode cX3_takeAll 29 = .ok (.putfield 38, 3) := by decide +kernel
theorem dX3_takeAll_32 : decode cX3_takeAll 32 = .ok (.aload_n 0, 1) := by decide +kernel
theorem dX3_takeAll_33 : decode cX3_takeAll 33 = .ok (.iconst (-1), 1) := by decide +kernel
theorem dX3_takeAll_34 : decode cX3_takeAll 34 = .ok (.putfield 42, 3) := by decide +kernel
theorem dX3_takeAll_37 : decode cX3_takeAll 37 = .ok (.aload_n 0, 1) := by decide +kernel
theorem dX3_takeAll_38 : decode cX3_takeAll 38 = .ok (.invokevirtual 45, 3) := by decide +kernel
theorem dX3_takeAll_41 : decode cX3_takeAll 41 = .ok (.istore_n 1, 1) := by decide +kernel
theorem dX3_takeAll_42 : decode cX3_takeAll 42 = .ok (.iconst 0, 1) := by decide +kernel
theorem dX3_takeAll_43 : decode cX3_takeAll 43 = .ok (.istore_n 2, 1) := by decide +kernel
theorem dX3_takeAll_44 : decode cX3_takeAll 44 = .ok (.iload_n 2, 1) := by decide +kernel
theorem dX3_takeAll_45 : decode cX3_takeAll 45 = .ok (.aload_n 0, 1) := by decide +kernel
theorem dX3_takeAll_46 : decode cX3_takeAll 46 = .ok (.getfield 49, 3) := by decide +kernel
theorem dX3_takeAll_49 : decode cX3_takeAll 49 = .ok (.if_icmp .ge 40, 3) := by decide +kernel
theorem dX3_takeAll_52 : decode cX3_takeAll 52 = .ok (.iload_n 1, 1) := by decide +kernel
theorem dX3_takeAll_53 : decode cX3_takeAll 53 = .ok (.ifCond .eq 36, 3) := by decide +kernel
theorem dX3_takeAll_56 : decode cX3_takeAll 56 = .ok (.aload_n 0, 1) := by decide +kernel
theorem dX3_takeAll_57 : decode cX3_takeAll 57 = .ok (.getfield 52, 3) := by decide +kernel
theorem dX3_takeAll_60 : decode cX3_takeAll 60 = .ok (.ifCond .eq 29, 3) := by decide +kernel
theorem dX3_takeAll_63 : decode cX3_takeAll 63 = .ok (.aload_n 0, 1) := by decide +kernel
theorem dX3_takeAll_64 : decode cX3_takeAll 64 = .ok (.invokevirtual 55, 3) := by decide +kernel
theorem dX3_takeAll_67 : decode cX3_takeAll 67 = .ok (.ifCond .eq 14, 3) := by decide +kernel
theorem dX3_takeAll_70 : decode cX3_takeAll 70 = .ok (.aload_n 0, 1) := by decide +kernel
theorem dX3_takeAll_71 : decode cX3_takeAll 71 = .ok (.invokevirtual 45, 3) := by decide +kernel
theorem dX3_takeAll_74 : decode cX3_takeAll 74 = .ok (.ifCond .eq 7, 3) := by decide +kernel
theorem dX3_takeAll_77 : decode cX3_takeAll 77 = .ok (.iconst 1, 1) := by decide +kernel
theorem dX3_takeAll_78 : decode cX3_takeAll 78 = .ok (.goto 4, 3) := by decide +kernel
theorem dX3_takeAll_81 : decode cX3_takeAll 81 = .ok (.iconst 0, 1) := by decide +kernel
theorem dX3_takeAll_82 : decode cX3_takeAll 82 = .ok (.istore_n 1, 1) := by decide +kernel
theorem dX3_takeAll_83 : decode cX3_takeAll 83 = .ok (.iinc 2 1, 3) := by decide +kernel
theorem dX3_takeAll_86 : decode cX3_takeAll 86 = .ok (.goto (-42), 3) := by decide +kernel
theorem dX3_takeAll_89 : decode cX3_takeAll 89 = .ok (.iload_n 1, 1) := by decide +kernel
theorem dX3_takeAll_90 : decode cX3_takeAll 90 = .ok (.ifCond .eq 14, 3) := by decide +kernel
theorem dX3_takeAll_93 : decode cX3_takeAll 93 = .ok (.aload_n 0, 1) := by decide +kernel
theorem dX3_takeAll_94 : decode cX3_takeAll 94 = .ok (.invokevirtual 58, 3) := by decide +kernel
theorem dX3_takeAll_97 : decode cX3_takeAll 97 = .ok (.ifCond .eq 7, 3) := by decide +kernel
theorem dX3_takeAll_100 : decode cX3_takeAll 100 = .ok (.iconst 1, 1) := by decide +kernel
theorem dX3_takeAll_101 : decode cX3_takeAll 101 = .ok (.goto 4, 3) := by decide +kernel
theorem dX3_takeAll_104 : decode cX3_takeAll 104 = .ok (.iconst 0, 1) := by decide +kernel
theorem dX3_takeAll_105 : decode cX3_takeAll 105 = .ok (.ireturn, 1) := by decide +kernel
theorem dX3_fail_0 : decode cX3_fail 0 = .ok (.aload_n 0, 1) := by decide +kernel
theorem dX3_fail_1 : decode cX3_fail 1 = .ok (.iload_n 1, 1) := by decide +kernel
theorem dX3_fail_2 : decode cX3_fail 2 = .ok (.putfield 29, 3) := by decide +kernel
theorem dX3_fail_5 : decode cX3_fail 5 = .ok (.aload_n 0, 1) := by decide +kernel
theorem dX3_fail_6 : decode cX3_fail 6 = .ok (.iload_n 2, 1) := by decide +kernel
theorem dX3_fail_7 : decode cX3_fail 7 = .ok (.putfield 32, 3) := by decide +kernel
theorem dX3_fail_10 : decode cX3_fail 10 = .ok (.iconst 0, 1) := by decide +kernel
theorem dX3_fail_11 : decode cX3_fail 11 = .ok (.ireturn, 1) := by decide +kernel
set_option maxRecDepth 20000 in
theorem ggX3_everyoneIsThere_X3_fail : GoodIn wsX3_everyoneIsThere wsX3_fail := goodIn_r _ [9, 10, 11, 12, 13, 14, 15, 16, 17, 18, 19, 20, 21, 22, 23] (by decide +kernel) (by decide +kernel)
set_option maxRecDepth 20000 in
theorem gX3_everyoneIsThere_X3_fail : GoodIn wsX3_everyoneIsThere (wsV RX3 64 RX3 yX3_fail wsX3_fail) := goodIn_app (goodIn_of _ (by decide +kernel)) ggX3_everyoneIsThere_X3_fail
theorem dX3_everyoneIsThere_0 : decode cX3_everyoneIsThere 0 = .ok (.aload_n 0, 1) := by decide +kernel
theorem dX3_everyoneIsThere_1 : decode cX3_everyoneIsThere 1 = .ok (.getfield 42, 3) := by decide +kernel
theorem dX3_everyoneIsThere_4 : decode cX3_everyoneIsThere 4 = .ok (.aload_n 0, 1) := by decide +kernel
theorem dX3_everyoneIsThere_5 : decode cX3_everyoneIsThere 5 = .ok (.getfield 18, 3) := by decide +kernel
theorem dX3_everyoneIsThere_8 : decode cX3_everyoneIsThere 8 = .ok (.getfield 61, 3) := by decide +kernel
theorem dX3_everyoneIsThere_11 : decode cX3_everyoneIsThere 11 = .ok (.if_icmp .lt 16, 3) := by decide +kernel
theorem dX3_everyoneIsThere_14 : decode cX3_everyoneIsThere 14 = .ok (.aload_n 0, 1) := by decide +kernel
theorem dX3_everyoneIsThere_15 : decode cX3_everyoneIsThere 15 = .ok (.bipush 6, 2) := by decide +kernel
theorem dX3_everyoneIsThere_17 : decode cX3_everyoneIsThere 17 = .ok (.aload_n 0, 1) := by decide +kernel
theorem dX3_everyoneIsThere_18 : decode cX3_everyoneIsThere 18 = .ok (.getfield 49, 3) := by decide +kernel
theorem dX3_everyoneIsThere_21 : decode cX3_everyoneIsThere 21 = .ok (.invokevirtual 64, 3) := by decide +kernel
theorem dX3_everyoneIsThere_24 : decode cX3_everyoneIsThere 24 = .ok (.ifCond .eq 7, 3) := by decide +kernel
theorem dX3_everyoneIsThere_27 : decode cX3_everyoneIsThere 27 = .ok (.iconst 1, 1) := by decide +kernel
theorem dX3_everyoneIsThere_28 : decode cX3_everyoneIsThere 28 = .ok (.goto 4, 3) := by decide +kernel
theorem dX3_everyoneIsThere_31 : decode cX3_everyoneIsThere 31 = .ok (.iconst 0, 1) := by decide +kernel
theorem dX3_everyoneIsThere_32 : decode cX3_everyoneIsThere 32 = .ok (.ireturn, 1) := by decide +kernel
set_option maxRecDepth 20000 in
theorem ggX3_takeLine_X3_natureNamed : GoodIn wsX3_takeLine wsX3_natureNamed := goodIn_r _ [7, 8, 9, 10, 6, 11, 12, 13, 1, 14, 15, 16, 17, 18, 19, 20, 21, 22, 23, 24, 25, 26, 27, 28, 29, 30, 31, 32, 33, 34, 35, 36, 37, 38, 39, 40, 41, 42, 43, 44, 45, 46, 47, 48, 49, 50, 51, 52, 53, 54, 55, 56, 57, 58, 59, 60, 61, 62, 63, 125, 126, 127, 128, 129, 130, 131, 132, 133, 134, 135, 136] (by decide +kernel) (by decide +kernel)
set_option maxRecDepth 20000 in
theorem gX3_takeLine_X3_natureNamed : GoodIn wsX3_takeLine (wsV RX3 68 RX3 yX3_natureNamed wsX3_natureNamed) := goodIn_app (goodIn_of _ (by decide +kernel)) ggX3_takeLine_X3_natureNamed
set_option maxRecDepth 20000 in
theorem ggX3_takeLine_X3_takePerson : GoodIn wsX3_takeLine wsX3_takePerson := goodIn_r _ [67, 68, 69, 1, 70, 71, 72, 73, 74, 75, 76, 6, 77, 78, 79, 80, 81, 82, 83, 12, 13, 14, 84, 85, 86, 87, 88, 89, 90, 91, 92, 93, 94, 95, 96, 97, 98, 99, 125, 126, 127, 128, 129, 130, 131, 132, 133, 134, 135, 136, 137, 138, 139, 140, 141, 142, 143] (by decide +kernel) (by decide +kernel)
set_option maxRecDepth 20000 in
theorem gX3_takeLine_X3_takePerson : GoodIn wsX3_takeLine (wsV RX3 72 RX3 yX3_takePerson wsX3_takePerson) := goodIn_app (goodIn_of _ (by decide +kernel)) ggX3_takeLine_X3_takePerson
set_option maxRecDepth 20000 in
theorem ggX3_takeLine_X3_isName : GoodIn wsX3_takeLine wsX3_isName := goodIn_r _ [11, 12, 13, 1, 14, 15, 16, 17, 18, 19, 20, 21, 22, 23, 24, 25, 26, 27, 28, 29, 30, 31, 32, 33, 34, 35, 36, 37, 38, 39, 40, 41, 42, 43, 44, 45, 46, 47, 48, 49, 50, 51, 52, 53, 54, 55, 56, 57, 58, 59, 60, 61, 62, 63, 125, 126, 127, 128, 129, 130, 131, 132, 133, 134, 135, 136] (by decide +kernel) (by decide +kernel)
set_option maxRecDepth 20000 in
theorem gX3_takeLine_X3_isName : GoodIn wsX3_takeLine (wsV RX3 78 RX3 yX3_isName wsX3_isName) := goodIn_app (goodIn_of _ (by decide +kernel)) ggX3_takeLine_X3_isName
set_option maxRecDepth 20000 in
theorem ggX3_takeLine_X3_takeOwes : GoodIn wsX3_takeLine wsX3_takeOwes := goodIn_r _ [103, 71, 1, 68, 104, 105, 106, 107, 108, 80, 81, 82, 6, 83, 12, 13, 14, 84, 85, 86, 87, 88, 89, 90, 91, 92, 74, 75, 76, 77, 78, 79, 93, 94, 95, 109, 110, 111, 112, 113, 114, 115, 116, 117, 118, 96, 97, 98, 99, 125, 126, 127, 128, 129, 130, 131, 132, 133, 134, 135, 136, 137, 138, 139, 140, 141, 142, 143] (by decide +kernel) (by decide +kernel)
set_option maxRecDepth 20000 in
theorem gX3_takeLine_X3_takeOwes : GoodIn wsX3_takeLine (wsV RX3 82 RX3 yX3_takeOwes wsX3_takeOwes) := goodIn_app (goodIn_of _ (by decide +kernel)) ggX3_takeLine_X3_takeOwes
set_option maxRecDepth 20000 in
theorem ggX3_takeLine_X3_takeDry : GoodIn wsX3_takeLine wsX3_takeDry := goodIn_r _ [122, 123, 1, 68, 71, 124, 74, 75, 76, 6, 77, 78, 79, 80, 81, 82, 83, 12, 13, 14, 84, 85, 86, 87, 88, 89, 90, 91, 92, 93, 94, 95, 96, 97, 98, 99, 125, 126, 127, 128, 129, 130, 131, 132, 133, 134, 135, 136, 137, 138, 139, 140, 141, 142, 143] (by decide +kernel) (by decide +kernel)
set_option maxRecDepth 20000 in
theorem gX3_takeLine_X3_takeDry : GoodIn wsX3_takeLine (wsV RX3 87 RX3 yX3_takeDry wsX3_takeDry) := goodIn_app (goodIn_of _ (by decide +kernel)) ggX3_takeLine_X3_takeDry
set_option maxRecDepth 20000 in
theorem ggX3_takeLine_X3_fail : GoodIn wsX3_takeLine wsX3_fail := goodIn_r _ [77, 78, 79, 125, 126, 127, 128, 129, 130, 131, 132, 133, 134, 135, 136] (by decide +kernel) (by decide +kernel)
set_option maxRecDepth 20000 in
theorem gX3_takeLine_X3_fail : GoodIn wsX3_takeLine (wsV RX3 64 RX3 yX3_fail wsX3_fail) := goodIn_app (goodIn_of _ (by decide +kernel)) ggX3_takeLine_X3_fail
theorem dX3_takeLine_0 : decode cX3_takeLine 0 = .ok (.aload_n 0, 1) := by decide +kernel
theorem dX3_takeLine_1 : decode cX3_takeLine 1 = .ok (.invokevirtual 68, 3) := by decide +kernel
theorem dX3_takeLine_4 : decode cX3_takeLine 4 = .ok (.istore_n 1, 1) := by decide +kernel
theorem dX3_takeLine_5 : decode cX3_takeLine 5 = .ok (.iload_n 1, 1) := by decide +kernel
theorem dX3_takeLine_6 : decode cX3_takeLine 6 = .ok (.ifCond .lt 12, 3) := by decide +kernel
theorem dX3_takeLine_9 : decode cX3_takeLine 9 = .ok (.aload_n 0, 1) := by decide +kernel
theorem dX3_takeLine_10 : decode cX3_takeLine 10 = .ok (.iload_n 1, 1) := by decide +kernel
theorem dX3_takeLine_11 : decode cX3_takeLine 11 = .ok (.invokevirtual 72, 3) := by decide +kernel
theorem dX3_takeLine_14 : decode cX3_takeLine 14 = .ok (.istore_n 2, 1) := by decide +kernel
theorem dX3_takeLine_15 : decode cX3_takeLine 15 = .ok (.goto 47, 3) := by decide +kernel
theorem dX3_takeLine_18 : decode cX3_takeLine 18 = .ok (.aload_n 0, 1) := by decide +kernel
theorem dX3_takeLine_19 : decode cX3_takeLine 19 = .ok (.ldc 76, 2) := by decide +kernel
theorem dX3_takeLine_21 : decode cX3_takeLine 21 = .ok (.invokevirtual 78, 3) := by decide +kernel
theorem dX3_takeLine_24 : decode cX3_takeLine 24 = .ok (.ifCond .eq 11, 3) := by decide +kernel
theorem dX3_takeLine_27 : decode cX3_takeLine 27 = .ok (.aload_n 0, 1) := by decide +kernel
theorem dX3_takeLine_28 : decode cX3_takeLine 28 = .ok (.invokevirtual 82, 3) := by decide +kernel
theorem dX3_takeLine_31 : decode cX3_takeLine 31 = .ok (.istore_n 2, 1) := by decide +kernel
theorem dX3_takeLine_32 : decode cX3_takeLine 32 = .ok (.goto 30, 3) := by decide +kernel
theorem dX3_takeLine_35 : decode cX3_takeLine 35 = .ok (.aload_n 0, 1) := by decide +kernel
theorem dX3_takeLine_36 : decode cX3_takeLine 36 = .ok (.ldc 85, 2) := by decide +kernel
theorem dX3_takeLine_38 : decode cX3_takeLine 38 = .ok (.invokevirtual 78, 3) := by decide +kernel
theorem dX3_takeLine_41 : decode cX3_takeLine 41 = .ok (.ifCond .eq 11, 3) := by decide +kernel
theorem dX3_takeLine_44 : decode cX3_takeLine 44 = .ok (.aload_n 0, 1) := by decide +kernel
theorem dX3_takeLine_45 : decode cX3_takeLine 45 = .ok (.invokevirtual 87, 3) := by decide +kernel
theorem dX3_takeLine_48 : decode cX3_takeLine 48 = .ok (.istore_n 2, 1) := by decide +kernel
theorem dX3_takeLine_49 : decode cX3_takeLine 49 = .ok (.goto 13, 3) := by decide +kernel
theorem dX3_takeLine_52 : decode cX3_takeLine 52 = .ok (.aload_n 0, 1) := by decide +kernel
theorem dX3_takeLine_53 : decode cX3_takeLine 53 = .ok (.iconst 2, 1) := by decide +kernel
theorem dX3_takeLine_54 : decode cX3_takeLine 54 = .ok (.aload_n 0, 1) := by decide +kernel
theorem dX3_takeLine_55 : decode cX3_takeLine 55 = .ok (.getfield 90, 3) := by decide +kernel
theorem dX3_takeLine_58 : decode cX3_takeLine 58 = .ok (.invokevirtual 64, 3) := by decide +kernel
theorem dX3_takeLine_61 : decode cX3_takeLine 61 = .ok (.istore_n 2, 1) := by decide +kernel
theorem dX3_takeLine_62 : decode cX3_takeLine 62 = .ok (.iload_n 2, 1) := by decide +kernel
theorem dX3_takeLine_63 : decode cX3_takeLine 63 = .ok (.ifCond .eq 13, 3) := by decide +kernel
theorem dX3_takeLine_66 : decode cX3_takeLine 66 = .ok (.aload_n 0, 1) := by decide +kernel
theorem dX3_takeLine_67 : decode cX3_takeLine 67 = .ok (.dup, 1) := by decide +kernel
theorem dX3_takeLine_68 : decode cX3_takeLine 68 = .ok (.getfield 25, 3) := by decide +kernel
theorem dX3_takeLine_71 : decode cX3_takeLine 71 = .ok (.iconst 1, 1) := by decide +kernel
theorem dX3_takeLine_72 : decode cX3_takeLine 72 = .ok (.iadd, 1) := by decide +kernel
theorem dX3_takeLine_73 : decode cX3_takeLine 73 = .ok (.putfield 25, 3) := by decide +kernel
theorem dX3_takeLine_76 : decode cX3_takeLine 76 = .ok (.iload_n 2, 1) := by decide +kernel
theorem dX3_takeLine_77 : decode cX3_takeLine 77 = .ok (.ireturn, 1) := by decide +kernel
set_option maxRecDepth 20000 in
theorem ggX3_natureNamed_X3_isName : GoodIn wsX3_natureNamed wsX3_isName := goodIn_r _ [5, 6, 7, 8, 9, 10, 11, 12, 13, 14, 15, 16, 17, 18, 19, 20, 21, 22, 23, 24, 25, 26, 27, 28, 29, 30, 31, 32, 33, 34, 35, 36, 37, 38, 39, 40, 41, 42, 43, 44, 45, 46, 47, 48, 49, 50, 51, 52, 53, 54, 55, 56, 57, 58, 59, 60, 61, 62, 63, 64, 65, 66, 67, 68, 69, 70] (by decide +kernel) (by decide +kernel)
set_option maxRecDepth 20000 in
theorem gX3_natureNamed_X3_isName : GoodIn wsX3_natureNamed (wsV RX3 78 RX3 yX3_isName wsX3_isName) := goodIn_app (goodIn_of _ (by decide +kernel)) ggX3_natureNamed_X3_isName
theorem dX3_natureNamed_0 : decode cX3_natureNamed 0 = .ok (.aload_n 0, 1) := by decide +kernel
theorem dX3_natureNamed_1 : decode cX3_natureNamed 1 = .ok (.ldc 93, 2) := by decide +kernel
theorem dX3_natureNamed_3 : decode cX3_natureNamed 3 = .ok (.invokevirtual 78, 3) := by decide +kernel
theorem dX3_natureNamed_6 : decode cX3_natureNamed 6 = .ok (.ifCond .eq 5, 3) := by decide +kernel
theorem dX3_natureNamed_9 : decode cX3_natureNamed 9 = .ok (.iconst 0, 1) := by decide +kernel
theorem dX3_natureNamed_10 : decode cX3_natureNamed 10 = .ok (.ireturn, 1) := by decide +kernel
theorem dX3_natureNamed_11 : decode cX3_natureNamed 11 = .ok (.aload_n 0, 1) := by decide +kernel
theorem dX3_natureNamed_12 : decode cX3_natureNamed 12 = .ok (.ldc 95, 2) := by decide +kernel
theorem dX3_natureNamed_14 : decode cX3_natureNamed 14 = .ok (.invokevirtual 78, 3) := by decide +kernel
theorem dX3_natureNamed_17 : decode cX3_natureNamed 17 = .ok (.ifCond .eq 5, 3) := by decide +kernel
theorem dX3_natureNamed_20 : decode cX3_natureNamed 20 = .ok (.iconst 1, 1) := by decide +kernel
theorem dX3_natureNamed_21 : decode cX3_natureNamed 21 = .ok (.ireturn, 1) := by decide +kernel
theorem dX3_natureNamed_22 : decode cX3_natureNamed 22 = .ok (.aload_n 0, 1) := by decide +kernel
theorem dX3_natureNamed_23 : decode cX3_natureNamed 23 = .ok (.ldc 97, 2) := by decide +kernel
theorem dX3_natureNamed_25 : decode cX3_natureNamed 25 = .ok (.invokevirtual 78, 3) := by decide +kernel
theorem dX3_natureNamed_28 : decode cX3_natureNamed 28 = .ok (.ifCond .eq 5, 3) := by decide +kernel
theorem dX3_natureNamed_31 : decode cX3_natureNamed 31 = .ok (.iconst 2, 1) := by decide +kernel
theorem dX3_natureNamed_32 : decode cX3_natureNamed 32 = .ok (.ireturn, 1) := by decide +kernel
theorem dX3_natureNamed_33 : decode cX3_natureNamed 33 = .ok (.aload_n 0, 1) := by decide +kernel
theorem dX3_natureNamed_34 : decode cX3_natureNamed 34 = .ok (.ldc 99, 2) := by decide +kernel
theorem dX3_natureNamed_36 : decode cX3_natureNamed 36 = .ok (.invokevirtual 78, 3) := by decide +kernel
theorem dX3_natureNamed_39 : decode cX3_natureNamed 39 = .ok (.ifCond .eq 7, 3) := by decide +kernel
theorem dX3_natureNamed_42 : decode cX3_natureNamed 42 = .ok (.iconst 3, 1) := by decide +kernel
theorem dX3_natureNamed_43 : decode cX3_natureNamed 43 = .ok (.goto 4, 3) := by decide +kernel
theorem dX3_natureNamed_46 : decode cX3_natureNamed 46 = .ok (.iconst (-1), 1) := by decide +kernel
theorem dX3_natureNamed_47 : decode cX3_natureNamed 47 = .ok (.ireturn, 1) := by decide +kernel
set_option maxRecDepth 20000 in
theorem ggX3_takePerson_X3_fail : GoodIn wsX3_takePerson wsX3_fail := goodIn_r _ [12, 13, 14, 38, 39, 40, 41, 42, 43, 44, 45, 46, 47, 48, 49] (by decide +kernel) (by decide +kernel)
set_option maxRecDepth 20000 in
theorem gX3_takePerson_X3_fail : GoodIn wsX3_takePerson (wsV RX3 64 RX3 yX3_fail wsX3_fail) := goodIn_app (goodIn_of _ (by decide +kernel)) ggX3_takePerson_X3_fail
set_option maxRecDepth 20000 in
theorem ggX3_takePerson_X3_takeNumber : GoodIn wsX3_takePerson wsX3_takeNumber := goodIn_r _ [18, 19, 3, 5, 20, 21, 22, 23, 24, 11, 25, 26, 27, 28, 29, 30, 8, 9, 10, 12, 13, 14, 31, 32, 33, 38, 39, 40, 41, 42, 43, 44, 45, 46, 47, 48, 49] (by decide +kernel) (by decide +kernel)
set_option maxRecDepth 20000 in
theorem gX3_takePerson_X3_takeNumber : GoodIn wsX3_takePerson (wsV RX3 101 RX3 yX3_takeNumber wsX3_takeNumber) := goodIn_app (goodIn_of _ (by decide +kernel)) ggX3_takePerson_X3_takeNumber
set_option maxRecDepth 20000 in
theorem ggX3_takePerson_X3_takeSemicolon : GoodIn wsX3_takePerson wsX3_takeSemicolon := goodIn_r _ [37, 19, 3, 22, 23, 24, 11, 25, 20, 26, 21, 27, 28, 29, 30, 8, 9, 10, 12, 13, 14, 38, 39, 40, 41, 42, 43, 44, 45, 46, 47, 48, 49] (by decide +kernel) (by decide +kernel)
set_option maxRecDepth 20000 in
theorem gX3_takePerson_X3_takeSemicolon : GoodIn wsX3_takePerson (wsV RX3 116 RX3 yX3_takeSemicolon wsX3_takeSemicolon) := goodIn_app (goodIn_of _ (by decide +kernel)) ggX3_takePerson_X3_takeSemicolon
theorem dX3_takePerson_0 : decode cX3_takePerson 0 = .ok (.aload_n 0, 1) := by decide +kernel
theorem dX3_takePerson_1 : decode cX3_takePerson 1 = .ok (.getfield 18, 3) := by decide +kernel
theorem dX3_takePerson_4 : decode cX3_takePerson 4 = .ok (.getfield 61, 3) := by decide +kernel
theorem dX3_takePerson_7 : decode cX3_takePerson 7 = .ok (.istore_n 2, 1) := by decide +kernel
theorem dX3_takePerson_8 : decode cX3_takePerson 8 = .ok (.iload_n 2, 1) := by decide +kernel
theorem dX3_takePerson_9 : decode cX3_takePerson 9 = .ok (.iconst 5, 1) := by decide +kernel
theorem dX3_takePerson_10 : decode cX3_takePerson 10 = .ok (.if_icmp .lt 13, 3) := by decide +kernel
theorem dX3_takePerson_13 : decode cX3_takePerson 13 = .ok (.aload_n 0, 1) := by decide +kernel
theorem dX3_takePerson_14 : decode cX3_takePerson 14 = .ok (.iconst 5, 1) := by decide +kernel
theorem dX3_takePerson_15 : decode cX3_takePerson 15 = .ok (.aload_n 0, 1) := by decide +kernel
theorem dX3_takePerson_16 : decode cX3_takePerson 16 = .ok (.getfield 90, 3) := by decide +kernel
theorem dX3_takePerson_19 : decode cX3_takePerson 19 = .ok (.invokevirtual 64, 3) := by decide +kernel
theorem dX3_takePerson_22 : decode cX3_takePerson 22 = .ok (.ireturn, 1) := by decide +kernel
theorem dX3_takePerson_23 : decode cX3_takePerson 23 = .ok (.aload_n 0, 1) := by decide +kernel
theorem dX3_takePerson_24 : decode cX3_takePerson 24 = .ok (.iconst 0, 1) := by decide +kernel
theorem dX3_takePerson_25 : decode cX3_takePerson 25 = .ok (.bipush 99, 2) := by decide +kernel
theorem dX3_takePerson_27 : decode cX3_takePerson 27 = .ok (.invokevirtual 101, 3) := by decide +kernel
theorem dX3_takePerson_30 : decode cX3_takePerson 30 = .ok (.ifCond .ne 5, 3) := by decide +kernel
theorem dX3_takePerson_33 : decode cX3_takePerson 33 = .ok (.iconst 0, 1) := by decide +kernel
theorem dX3_takePerson_34 : decode cX3_takePerson 34 = .ok (.ireturn, 1) := by decide +kernel
theorem dX3_takePerson_35 : decode cX3_takePerson 35 = .ok (.aload_n 0, 1) := by decide +kernel
theorem dX3_takePerson_36 : decode cX3_takePerson 36 = .ok (.getfield 18, 3) := by decide +kernel
theorem dX3_takePerson_39 : decode cX3_takePerson 39 = .ok (.getfield 104, 3) := by decide +kernel
theorem dX3_takePerson_42 : decode cX3_takePerson 42 = .ok (.iload_n 2, 1) := by decide +kernel
theorem dX3_takePerson_43 : decode cX3_takePerson 43 = .ok (.aload_n 0, 1) := by decide +kernel
theorem dX3_takePerson_44 : decode cX3_takePerson 44 = .ok (.getfield 107, 3) := by decide +kernel
theorem dX3_takePerson_47 : decode cX3_takePerson 47 = .ok (.iastore, 1) := by decide +kernel
theorem dX3_takePerson_48 : decode cX3_takePerson 48 = .ok (.aload_n 0, 1) := by decide +kernel
theorem dX3_takePerson_49 : decode cX3_takePerson 49 = .ok (.iconst 0, 1) := by decide +kernel
theorem dX3_takePerson_50 : decode cX3_takePerson 50 = .ok (.bipush 9, 2) := by decide +kernel
theorem dX3_takePerson_52 : decode cX3_takePerson 52 = .ok (.invokevirtual 101, 3) := by decide +kernel
theorem dX3_takePerson_55 : decode cX3_takePerson 55 = .ok (.ifCond .ne 5, 3) := by decide +kernel
theorem dX3_takePerson_58 : decode cX3_takePerson 58 = .ok (.iconst 0, 1) := by decide +kernel
theorem dX3_takePerson_59 : decode cX3_takePerson 59 = .ok (.ireturn, 1) := by decide +kernel
theorem dX3_takePerson_60 : decode cX3_takePerson 60 = .ok (.aload_n 0, 1) := by decide +kernel
theorem dX3_takePerson_61 : decode cX3_takePerson 61 = .ok (.getfield 18, 3) := by decide +kernel
theorem dX3_takePerson_64 : decode cX3_takePerson 64 = .ok (.getfield 110, 3) := by decide +kernel
theorem dX3_takePerson_67 : decode cX3_takePerson 67 = .ok (.iload_n 2, 1) := by decide +kernel
theorem dX3_takePerson_68 : decode cX3_takePerson 68 = .ok (.aload_n 0, 1) := by decide +kernel
theorem dX3_takePerson_69 : decode cX3_takePerson 69 = .ok (.getfield 107, 3) := by decide +kernel
theorem dX3_takePerson_72 : decode cX3_takePerson 72 = .ok (.iastore, 1) := by decide +kernel
theorem dX3_takePerson_73 : decode cX3_takePerson 73 = .ok (.aload_n 0, 1) := by decide +kernel
theorem dX3_takePerson_74 : decode cX3_takePerson 74 = .ok (.getfield 18, 3) := by decide +kernel
theorem dX3_takePerson_77 : decode cX3_takePerson 77 = .ok (.getfield 113, 3) := by decide +kernel
theorem dX3_takePerson_80 : decode cX3_takePerson 80 = .ok (.iload_n 2, 1) := by decide +kernel
theorem dX3_takePerson_81 : decode cX3_takePerson 81 = .ok (.iload_n 1, 1) := by decide +kernel
theorem dX3_takePerson_82 : decode cX3_takePerson 82 = .ok (.iastore, 1) := by decide +kernel
theorem dX3_takePerson_83 : decode cX3_takePerson 83 = .ok (.aload_n 0, 1) := by decide +kernel
theorem dX3_takePerson_84 : decode cX3_takePerson 84 = .ok (.getfield 18, 3) := by decide +kernel
theorem dX3_takePerson_87 : decode cX3_takePerson 87 = .ok (.dup, 1) := by decide +kernel
theorem dX3_takePerson_88 : decode cX3_takePerson 88 = .ok (.getfield 61, 3) := by decide +kernel
theorem dX3_takePerson_91 : decode cX3_takePerson 91 = .ok (.iconst 1, 1) := by decide +kernel
theorem dX3_takePerson_92 : decode cX3_takePerson 92 = .ok (.iadd, 1) := by decide +kernel
theorem dX3_takePerson_93 : decode cX3_takePerson 93 = .ok (.putfield 61, 3) := by decide +kernel
theorem dX3_takePerson_96 : decode cX3_takePerson 96 = .ok (.aload_n 0, 1) := by decide +kernel
theorem dX3_takePerson_97 : decode cX3_takePerson 97 = .ok (.invokevirtual 116, 3) := by decide +kernel
theorem dX3_takePerson_100 : decode cX3_takePerson 100 = .ok (.ireturn, 1) := by decide +kernel
set_option maxRecDepth 20000 in
theorem ggX3_takeOwes_X3_takeNumber : GoodIn wsX3_takeOwes wsX3_takeNumber := goodIn_r _ [13, 14, 2, 1, 15, 16, 17, 18, 19, 12, 20, 21, 22, 23, 24, 25, 26, 27, 28, 29, 30, 31, 32, 33, 34, 49, 50, 51, 52, 53, 54, 55, 56, 57, 58, 59, 60] (by decide +kernel) (by decide +kernel)
set_option maxRecDepth 20000 in
theorem gX3_takeOwes_X3_takeNumber : GoodIn wsX3_takeOwes (wsV RX3 101 RX3 yX3_takeNumber wsX3_takeNumber) := goodIn_app (goodIn_of _ (by decide +kernel)) ggX3_takeOwes_X3_takeNumber
set_option maxRecDepth 20000 in
theorem ggX3_takeOwes_X3_fail : GoodIn wsX3_takeOwes wsX3_fail := goodIn_r _ [29, 30, 31, 49, 50, 51, 52, 53, 54, 55, 56, 57, 58, 59, 60] (by decide +kernel) (by decide +kernel)
set_option maxRecDepth 20000 in
theorem gX3_takeOwes_X3_fail : GoodIn wsX3_takeOwes (wsV RX3 64 RX3 yX3_fail wsX3_fail) := goodIn_app (goodIn_of _ (by decide +kernel)) ggX3_takeOwes_X3_fail
set_option maxRecDepth 20000 in
theorem ggX3_takeOwes_X1_debt : GoodIn wsX3_takeOwes wsX1_debt := goodIn_r _ [39, 40, 61, 62, 63, 64, 65, 66, 67] (by decide +kernel) (by decide +kernel)
set_option maxRecDepth 20000 in
theorem gX3_takeOwes_X1_debt : GoodIn wsX3_takeOwes (wsV RX3 119 RX1 yX1_debt wsX1_debt) := goodIn_app (goodIn_of _ (by decide +kernel)) ggX3_takeOwes_X1_debt
set_option maxRecDepth 20000 in
theorem ggX3_takeOwes_X1_setDebt : GoodIn wsX3_takeOwes wsX1_setDebt := goodIn_r _ [44, 40, 61, 62, 63, 64, 65, 66, 67] (by decide +kernel) (by decide +kernel)
set_option maxRecDepth 20000 in
theorem gX3_takeOwes_X1_setDebt : GoodIn wsX3_takeOwes (wsV RX3 123 RX1 yX1_setDebt wsX1_setDebt) := goodIn_app (goodIn_of _ (by decide +kernel)) ggX3_takeOwes_X1_setDebt
set_option maxRecDepth 20000 in
theorem ggX3_takeOwes_X3_takeSemicolon : GoodIn wsX3_takeOwes wsX3_takeSemicolon := goodIn_r _ [48, 14, 2, 17, 18, 19, 12, 20, 15, 21, 16, 22, 23, 24, 25, 26, 27, 28, 29, 30, 31, 49, 50, 51, 52, 53, 54, 55, 56, 57, 58, 59, 60] (by decide +kernel) (by decide +kernel)
set_option maxRecDepth 20000 in
theorem gX3_takeOwes_X3_takeSemicolon : GoodIn wsX3_takeOwes (wsV RX3 116 RX3 yX3_takeSemicolon wsX3_takeSemicolon) := goodIn_app (goodIn_of _ (by decide +kernel)) ggX3_takeOwes_X3_takeSemicolon
theorem dX3_takeOwes_0 : decode cX3_takeOwes 0 = .ok (.aload_n 0, 1) := by decide +kernel
theorem dX3_takeOwes_1 : decode cX3_takeOwes 1 = .ok (.iconst 0, 1) := by decide +kernel
theorem dX3_takeOwes_2 : decode cX3_takeOwes 2 = .ok (.iconst 4, 1) := by decide +kernel
theorem dX3_takeOwes_3 : decode cX3_takeOwes 3 = .ok (.invokevirtual 101, 3) := by decide +kernel
theorem dX3_takeOwes_6 : decode cX3_takeOwes 6 = .ok (.ifCond .ne 5, 3) := by decide +kernel
theorem dX3_takeOwes_9 : decode cX3_takeOwes 9 = .ok (.iconst 0, 1) := by decide +kernel
theorem dX3_takeOwes_10 : decode cX3_takeOwes 10 = .ok (.ireturn, 1) := by decide +kernel
theorem dX3_takeOwes_11 : decode cX3_takeOwes 11 = .ok (.aload_n 0, 1) := by decide +kernel
theorem dX3_takeOwes_12 : decode cX3_takeOwes 12 = .ok (.getfield 107, 3) := by decide +kernel
theorem dX3_takeOwes_15 : decode cX3_takeOwes 15 = .ok (.istore_n 1, 1) := by decide +kernel
theorem dX3_takeOwes_16 : decode cX3_takeOwes 16 = .ok (.aload_n 0, 1) := by decide +kernel
theorem dX3_takeOwes_17 : decode cX3_takeOwes 17 = .ok (.iconst 0, 1) := by decide +kernel
theorem dX3_takeOwes_18 : decode cX3_takeOwes 18 = .ok (.iconst 4, 1) := by decide +kernel
theorem dX3_takeOwes_19 : decode cX3_takeOwes 19 = .ok (.invokevirtual 101, 3) := by decide +kernel
theorem dX3_takeOwes_22 : decode cX3_takeOwes 22 = .ok (.ifCond .ne 5, 3) := by decide +kernel
theorem dX3_takeOwes_25 : decode cX3_takeOwes 25 = .ok (.iconst 0, 1) := by decide +kernel
theorem dX3_takeOwes_26 : decode cX3_takeOwes 26 = .ok (.ireturn, 1) := by decide +kernel
theorem dX3_takeOwes_27 : decode cX3_takeOwes 27 = .ok (.aload_n 0, 1) := by decide +kernel
theorem dX3_takeOwes_28 : decode cX3_takeOwes 28 = .ok (.getfield 107, 3) := by decide +kernel
theorem dX3_takeOwes_31 : decode cX3_takeOwes 31 = .ok (.istore_n 2, 1) := by decide +kernel
theorem dX3_takeOwes_32 : decode cX3_takeOwes 32 = .ok (.iload_n 2, 1) := by decide +kernel
theorem dX3_takeOwes_33 : decode cX3_takeOwes 33 = .ok (.iload_n 1, 1) := by decide +kernel
theorem dX3_takeOwes_34 : decode cX3_takeOwes 34 = .ok (.if_icmp .ne 13, 3) := by decide +kernel
theorem dX3_takeOwes_37 : decode cX3_takeOwes 37 = .ok (.aload_n 0, 1) := by decide +kernel
theorem dX3_takeOwes_38 : decode cX3_takeOwes 38 = .ok (.iconst 3, 1) := by decide +kernel
theorem dX3_takeOwes_39 : decode cX3_takeOwes 39 = .ok (.aload_n 0, 1) := by decide +kernel
theorem dX3_takeOwes_40 : decode cX3_takeOwes 40 = .ok (.getfield 90, 3) := by decide +kernel
theorem dX3_takeOwes_43 : decode cX3_takeOwes 43 = .ok (.invokevirtual 64, 3) := by decide +kernel
theorem dX3_takeOwes_46 : decode cX3_takeOwes 46 = .ok (.ireturn, 1) := by decide +kernel
theorem dX3_takeOwes_47 : decode cX3_takeOwes 47 = .ok (.aload_n 0, 1) := by decide +kernel
theorem dX3_takeOwes_48 : decode cX3_takeOwes 48 = .ok (.getfield 18, 3) := by decide +kernel
theorem dX3_takeOwes_51 : decode cX3_takeOwes 51 = .ok (.iload_n 1, 1) := by decide +kernel
theorem dX3_takeOwes_52 : decode cX3_takeOwes 52 = .ok (.iload_n 2, 1) := by decide +kernel
theorem dX3_takeOwes_53 : decode cX3_takeOwes 53 = .ok (.invokevirtual 119, 3) := by decide +kernel
theorem dX3_takeOwes_56 : decode cX3_takeOwes 56 = .ok (.ifCond .le 13, 3) := by decide +kernel
theorem dX3_takeOwes_59 : decode cX3_takeOwes 59 = .ok (.aload_n 0, 1) := by decide +kernel
theorem dX3_takeOwes_60 : decode cX3_takeOwes 60 = .ok (.iconst 4, 1) := by decide +kernel
theorem dX3_takeOwes_61 : decode cX3_takeOwes 61 = .ok (.aload_n 0, 1) := by decide +kernel
theorem dX3_takeOwes_62 : decode cX3_takeOwes 62 = .ok (.getfield 90, 3) := by decide +kernel
theorem dX3_takeOwes_65 : decode cX3_takeOwes 65 = .ok (.invokevirtual 64, 3) := by decide +kernel
theorem dX3_takeOwes_68 : decode cX3_takeOwes 68 = .ok (.ireturn, 1) := by decide +kernel
theorem dX3_takeOwes_69 : decode cX3_takeOwes 69 = .ok (.aload_n 0, 1) := by decide +kernel
theorem dX3_takeOwes_70 : decode cX3_takeOwes 70 = .ok (.iconst 1, 1) := by decide +kernel
theorem dX3_takeOwes_71 : decode cX3_takeOwes 71 = .ok (.bipush 99, 2) := by decide +kernel
theorem dX3_takeOwes_73 : decode cX3_takeOwes 73 = .ok (.invokevirtual 101, 3) := by decide +kernel
theorem dX3_takeOwes_76 : decode cX3_takeOwes 76 = .ok (.ifCond .ne 5, 3) := by decide +kernel
theorem dX3_takeOwes_79 : decode cX3_takeOwes 79 = .ok (.iconst 0, 1) := by decide +kernel
theorem dX3_takeOwes_80 : decode cX3_takeOwes 80 = .ok (.ireturn, 1) := by decide +kernel
theorem dX3_takeOwes_81 : decode cX3_takeOwes 81 = .ok (.aload_n 0, 1) := by decide +kernel
theorem dX3_takeOwes_82 : decode cX3_takeOwes 82 = .ok (.getfield 18, 3) := by decide +kernel
theorem dX3_takeOwes_85 : decode cX3_takeOwes 85 = .ok (.iload_n 1, 1) := by decide +kernel
theorem dX3_takeOwes_86 : decode cX3_takeOwes 86 = .ok (.iload_n 2, 1) := by decide +kernel
theorem dX3_takeOwes_87 : decode cX3_takeOwes 87 = .ok (.aload_n 0, 1) := by decide +kernel
theorem dX3_takeOwes_88 : decode cX3_takeOwes 88 = .ok (.getfield 107, 3) := by decide +kernel
theorem dX3_takeOwes_91 : decode cX3_takeOwes 91 = .ok (.invokevirtual 123, 3) := by decide +kernel
theorem dX3_takeOwes_94 : decode cX3_takeOwes 94 = .ok (.aload_n 0, 1) := by decide +kernel
theorem dX3_takeOwes_95 : decode cX3_takeOwes 95 = .ok (.aload_n 0, 1) := by decide +kernel
theorem dX3_takeOwes_96 : decode cX3_takeOwes 96 = .ok (.getfield 42, 3) := by decide +kernel
theorem dX3_takeOwes_99 : decode cX3_takeOwes 99 = .ok (.iload_n 1, 1) := by decide +kernel
theorem dX3_takeOwes_100 : decode cX3_takeOwes 100 = .ok (.iload_n 2, 1) := by decide +kernel
theorem dX3_takeOwes_101 : decode cX3_takeOwes 101 = .ok (.invokestatic 127, 3) := by decide +kernel
theorem dX3_takeOwes_104 : decode cX3_takeOwes 104 = .ok (.invokestatic 127, 3) := by decide +kernel
theorem dX3_takeOwes_107 : decode cX3_takeOwes 107 = .ok (.putfield 42, 3) := by decide +kernel
theorem dX3_takeOwes_110 : decode cX3_takeOwes 110 = .ok (.aload_n 0, 1) := by decide +kernel
theorem dX3_takeOwes_111 : decode cX3_takeOwes 111 = .ok (.invokevirtual 116, 3) := by decide +kernel
theorem dX3_takeOwes_114 : decode cX3_takeOwes 114 = .ok (.ireturn, 1) := by decide +kernel
set_option maxRecDepth 20000 in
theorem ggX3_takeDry_X3_fail : GoodIn wsX3_takeDry wsX3_fail := goodIn_r _ [10, 11, 12, 36, 37, 38, 39, 40, 41, 42, 43, 44, 45, 46, 47] (by decide +kernel) (by decide +kernel)
set_option maxRecDepth 20000 in
theorem gX3_takeDry_X3_fail : GoodIn wsX3_takeDry (wsV RX3 64 RX3 yX3_fail wsX3_fail) := goodIn_app (goodIn_of _ (by decide +kernel)) ggX3_takeDry_X3_fail
set_option maxRecDepth 20000 in
theorem ggX3_takeDry_X3_takeNumber : GoodIn wsX3_takeDry wsX3_takeNumber := goodIn_r _ [16, 17, 2, 4, 18, 19, 20, 21, 22, 9, 23, 24, 25, 26, 27, 28, 6, 7, 8, 10, 11, 12, 29, 30, 31, 36, 37, 38, 39, 40, 41, 42, 43, 44, 45, 46, 47] (by decide +kernel) (by decide +kernel)
set_option maxRecDepth 20000 in
theorem gX3_takeDry_X3_takeNumber : GoodIn wsX3_takeDry (wsV RX3 101 RX3 yX3_takeNumber wsX3_takeNumber) := goodIn_app (goodIn_of _ (by decide +kernel)) ggX3_takeDry_X3_takeNumber
set_option maxRecDepth 20000 in
theorem ggX3_takeDry_X3_takeSemicolon : GoodIn wsX3_takeDry wsX3_takeSemicolon := goodIn_r _ [35, 17, 2, 20, 21, 22, 9, 23, 18, 24, 19, 25, 26, 27, 28, 6, 7, 8, 10, 11, 12, 36, 37, 38, 39, 40, 41, 42, 43, 44, 45, 46, 47] (by decide +kernel) (by decide +kernel)
set_option maxRecDepth 20000 in
theorem gX3_takeDry_X3_takeSemicolon : GoodIn wsX3_takeDry (wsV RX3 116 RX3 yX3_takeSemicolon wsX3_takeSemicolon) := goodIn_app (goodIn_of _ (by decide +kernel)) ggX3_takeDry_X3_takeSemicolon
theorem dX3_takeDry_0 : decode cX3_takeDry 0 = .ok (.aload_n 0, 1) := by decide +kernel
theorem dX3_takeDry_1 : decode cX3_takeDry 1 = .ok (.getfield 38, 3) := by decide +kernel
theorem dX3_takeDry_4 : decode cX3_takeDry 4 = .ok (.ifCond .eq 13, 3) := by decide +kernel
theorem dX3_takeDry_7 : decode cX3_takeDry 7 = .ok (.aload_n 0, 1) := by decide +kernel
theorem dX3_takeDry_8 : decode cX3_takeDry 8 = .ok (.iconst 4, 1) := by decide +kernel
theorem dX3_takeDry_9 : decode cX3_takeDry 9 = .ok (.aload_n 0, 1) := by decide +kernel
theorem dX3_takeDry_10 : decode cX3_takeDry 10 = .ok (.getfield 90, 3) := by decide +kernel
theorem dX3_takeDry_13 : decode cX3_takeDry 13 = .ok (.invokevirtual 64, 3) := by decide +kernel
theorem dX3_takeDry_16 : decode cX3_takeDry 16 = .ok (.ireturn, 1) := by decide +kernel
theorem dX3_takeDry_17 : decode cX3_takeDry 17 = .ok (.aload_n 0, 1) := by decide +kernel
theorem dX3_takeDry_18 : decode cX3_takeDry 18 = .ok (.iconst 1, 1) := by decide +kernel
theorem dX3_takeDry_19 : decode cX3_takeDry 19 = .ok (.putfield 38, 3) := by decide +kernel
theorem dX3_takeDry_22 : decode cX3_takeDry 22 = .ok (.aload_n 0, 1) := by decide +kernel
theorem dX3_takeDry_23 : decode cX3_takeDry 23 = .ok (.iconst 0, 1) := by decide +kernel
theorem dX3_takeDry_24 : decode cX3_takeDry 24 = .ok (.bipush 9, 2) := by decide +kernel
theorem dX3_takeDry_26 : decode cX3_takeDry 26 = .ok (.invokevirtual 101, 3) := by decide +kernel
theorem dX3_takeDry_29 : decode cX3_takeDry 29 = .ok (.ifCond .ne 5, 3) := by decide +kernel
theorem dX3_takeDry_32 : decode cX3_takeDry 32 = .ok (.iconst 0, 1) := by decide +kernel
theorem dX3_takeDry_33 : decode cX3_takeDry 33 = .ok (.ireturn, 1) := by decide +kernel
theorem dX3_takeDry_34 : decode cX3_takeDry 34 = .ok (.aload_n 0, 1) := by decide +kernel
theorem dX3_takeDry_35 : decode cX3_takeDry 35 = .ok (.getfield 18, 3) := by decide +kernel
theorem dX3_takeDry_38 : decode cX3_takeDry 38 = .ok (.aload_n 0, 1) := by decide +kernel
theorem dX3_takeDry_39 : decode cX3_takeDry 39 = .ok (.getfield 107, 3) := by decide +kernel
theorem dX3_takeDry_42 : decode cX3_takeDry 42 = .ok (.putfield 132, 3) := by decide +kernel
theorem dX3_takeDry_45 : decode cX3_takeDry 45 = .ok (.aload_n 0, 1) := by decide +kernel
theorem dX3_takeDry_46 : decode cX3_takeDry 46 = .ok (.invokevirtual 116, 3) := by decide +kernel
theorem dX3_takeDry_49 : decode cX3_takeDry 49 = .ok (.ireturn, 1) := by decide +kernel
set_option maxRecDepth 20000 in
theorem ggX3_takeNumber_X3_next : GoodIn wsX3_takeNumber wsX3_next := goodIn_r _ [10, 4, 11, 5, 2, 1, 12, 13, 14, 9, 15, 16, 17, 18, 19, 20, 21, 25, 26, 27, 28, 29, 30, 31, 32, 33, 34, 35, 36] (by decide +kernel) (by decide +kernel)
set_option maxRecDepth 20000 in
theorem gX3_takeNumber_X3_next : GoodIn wsX3_takeNumber (wsV RX3 45 RX3 yX3_next wsX3_next) := goodIn_app (goodIn_of _ (by decide +kernel)) ggX3_takeNumber_X3_next
set_option maxRecDepth 20000 in
theorem ggX3_takeNumber_X3_fail : GoodIn wsX3_takeNumber wsX3_fail := goodIn_r _ [19, 20, 21, 25, 26, 27, 28, 29, 30, 31, 32, 33, 34, 35, 36] (by decide +kernel) (by decide +kernel)
set_option maxRecDepth 20000 in
theorem gX3_takeNumber_X3_fail : GoodIn wsX3_takeNumber (wsV RX3 64 RX3 yX3_fail wsX3_fail) := goodIn_app (goodIn_of _ (by decide +kernel)) ggX3_takeNumber_X3_fail
set_option maxRecDepth 20000 in
theorem ggX3_takeNumber_X7_within : GoodIn wsX3_takeNumber wsX7_within := goodIn_r _ [24] (by decide +kernel) (by decide +kernel)
set_option maxRecDepth 20000 in
theorem gX3_takeNumber_X7_within_n135 : GoodIn wsX3_takeNumber (wsX7_within) := ggX3_takeNumber_X7_within
theorem dX3_takeNumber_0 : decode cX3_takeNumber 0 = .ok (.aload_n 0, 1) := by decide +kernel
theorem dX3_takeNumber_1 : decode cX3_takeNumber 1 = .ok (.invokevirtual 45, 3) := by decide +kernel
theorem dX3_takeNumber_4 : decode cX3_takeNumber 4 = .ok (.ifCond .ne 5, 3) := by decide +kernel
theorem dX3_takeNumber_7 : decode cX3_takeNumber 7 = .ok (.iconst 0, 1) := by decide +kernel
theorem dX3_takeNumber_8 : decode cX3_takeNumber 8 = .ok (.ireturn, 1) := by decide +kernel
theorem dX3_takeNumber_9 : decode cX3_takeNumber 9 = .ok (.aload_n 0, 1) := by decide +kernel
theorem dX3_takeNumber_10 : decode cX3_takeNumber 10 = .ok (.getfield 52, 3) := by decide +kernel
theorem dX3_takeNumber_13 : decode cX3_takeNumber 13 = .ok (.iconst 2, 1) := by decide +kernel
theorem dX3_takeNumber_14 : decode cX3_takeNumber 14 = .ok (.if_icmp .eq 13, 3) := by decide +kernel
theorem dX3_takeNumber_17 : decode cX3_takeNumber 17 = .ok (.aload_n 0, 1) := by decide +kernel
theorem dX3_takeNumber_18 : decode cX3_takeNumber 18 = .ok (.iconst 2, 1) := by decide +kernel
theorem dX3_takeNumber_19 : decode cX3_takeNumber 19 = .ok (.aload_n 0, 1) := by decide +kernel
theorem dX3_takeNumber_20 : decode cX3_takeNumber 20 = .ok (.getfield 90, 3) := by decide +kernel
theorem dX3_takeNumber_23 : decode cX3_takeNumber 23 = .ok (.invokevirtual 64, 3) := by decide +kernel
theorem dX3_takeNumber_26 : decode cX3_takeNumber 26 = .ok (.ireturn, 1) := by decide +kernel
theorem dX3_takeNumber_27 : decode cX3_takeNumber 27 = .ok (.aload_n 0, 1) := by decide +kernel
theorem dX3_takeNumber_28 : decode cX3_takeNumber 28 = .ok (.iconst 0, 1) := by decide +kernel
theorem dX3_takeNumber_29 : decode cX3_takeNumber 29 = .ok (.putfield 107, 3) := by decide +kernel
theorem dX3_takeNumber_32 : decode cX3_takeNumber 32 = .ok (.aload_n 0, 1) := by decide +kernel
theorem dX3_takeNumber_33 : decode cX3_takeNumber 33 = .ok (.getfield 90, 3) := by decide +kernel
theorem dX3_takeNumber_36 : decode cX3_takeNumber 36 = .ok (.istore_n 3, 1) := by decide +kernel
theorem dX3_takeNumber_37 : decode cX3_takeNumber 37 = .ok (.iload_n 3, 1) := by decide +kernel
theorem dX3_takeNumber_38 : decode cX3_takeNumber 38 = .ok (.aload_n 0, 1) := by decide +kernel
theorem dX3_takeNumber_39 : decode cX3_takeNumber 39 = .ok (.getfield 35, 3) := by decide +kernel
theorem dX3_takeNumber_42 : decode cX3_takeNumber 42 = .ok (.if_icmp .ge 30, 3) := by decide +kernel
theorem dX3_takeNumber_45 : decode cX3_takeNumber 45 = .ok (.aload_n 0, 1) := by decide +kernel
theorem dX3_takeNumber_46 : decode cX3_takeNumber 46 = .ok (.aload_n 0, 1) := by decide +kernel
theorem dX3_takeNumber_47 : decode cX3_takeNumber 47 = .ok (.getfield 107, 3) := by decide +kernel
theorem dX3_takeNumber_50 : decode cX3_takeNumber 50 = .ok (.bipush 10, 2) := by decide +kernel
theorem dX3_takeNumber_52 : decode cX3_takeNumber 52 = .ok (.imul, 1) := by decide +kernel
theorem dX3_takeNumber_53 : decode cX3_takeNumber 53 = .ok (.aload_n 0, 1) := by decide +kernel
theorem dX3_takeNumber_54 : decode cX3_takeNumber 54 = .ok (.getfield 9, 3) := by decide +kernel
theorem dX3_takeNumber_57 : decode cX3_takeNumber 57 = .ok (.iload_n 3, 1) := by decide +kernel
theorem dX3_takeNumber_58 : decode cX3_takeNumber 58 = .ok (.iaload, 1) := by decide +kernel
theorem dX3_takeNumber_59 : decode cX3_takeNumber 59 = .ok (.iadd, 1) := by decide +kernel
theorem dX3_takeNumber_60 : decode cX3_takeNumber 60 = .ok (.bipush 48, 2) := by decide +kernel
theorem dX3_takeNumber_62 : decode cX3_takeNumber 62 = .ok (.isub, 1) := by decide +kernel
theorem dX3_takeNumber_63 : decode cX3_takeNumber 63 = .ok (.putfield 107, 3) := by decide +kernel
theorem dX3_takeNumber_66 : decode cX3_takeNumber 66 = .ok (.iinc 3 1, 3) := by decide +kernel
theorem dX3_takeNumber_69 : decode cX3_takeNumber 69 = .ok (.goto (-32), 3) := by decide +kernel
theorem dX3_takeNumber_72 : decode cX3_takeNumber 72 = .ok (.aload_n 0, 1) := by decide +kernel
theorem dX3_takeNumber_73 : decode cX3_takeNumber 73 = .ok (.getfield 107, 3) := by decide +kernel
theorem dX3_takeNumber_76 : decode cX3_takeNumber 76 = .ok (.iload_n 1, 1) := by decide +kernel
theorem dX3_takeNumber_77 : decode cX3_takeNumber 77 = .ok (.iload_n 2, 1) := by decide +kernel
theorem dX3_takeNumber_78 : decode cX3_takeNumber 78 = .ok (.invokestatic 135, 3) := by decide +kernel
theorem dX3_takeNumber_81 : decode cX3_takeNumber 81 = .ok (.ifCond .ne 15, 3) := by decide +kernel
theorem dX3_takeNumber_84 : decode cX3_takeNumber 84 = .ok (.aload_n 0, 1) := by decide +kernel
theorem dX3_takeNumber_85 : decode cX3_takeNumber 85 = .ok (.iconst 3, 1) := by decide +kernel
theorem dX3_takeNumber_86 : decode cX3_takeNumber 86 = .ok (.aload_n 0, 1) := by decide +kernel
theorem dX3_takeNumber_87 : decode cX3_takeNumber 87 = .ok (.getfield 90, 3) := by decide +kernel
theorem dX3_takeNumber_90 : decode cX3_takeNumber 90 = .ok (.invokevirtual 64, 3) := by decide +kernel
theorem dX3_takeNumber_93 : decode cX3_takeNumber 93 = .ok (.ifCond .eq 7, 3) := by decide +kernel
theorem dX3_takeNumber_96 : decode cX3_takeNumber 96 = .ok (.iconst 1, 1) := by decide +kernel
theorem dX3_takeNumber_97 : decode cX3_takeNumber 97 = .ok (.goto 4, 3) := by decide +kernel
theorem dX3_takeNumber_100 : decode cX3_takeNumber 100 = .ok (.iconst 0, 1) := by decide +kernel
theorem dX3_takeNumber_101 : decode cX3_takeNumber 101 = .ok (.ireturn, 1) := by decide +kernel
set_option maxRecDepth 20000 in
theorem ggX3_takeSemicolon_X3_next : GoodIn wsX3_takeSemicolon wsX3_next := goodIn_r _ [7, 8, 9, 10, 2, 1, 11, 12, 13, 6, 14, 15, 16, 17, 18, 19, 20, 21, 22, 23, 24, 25, 26, 27, 28, 29, 30, 31, 32] (by decide +kernel) (by decide +kernel)
set_option maxRecDepth 20000 in
theorem gX3_takeSemicolon_X3_next : GoodIn wsX3_takeSemicolon (wsV RX3 45 RX3 yX3_next wsX3_next) := goodIn_app (goodIn_of _ (by decide +kernel)) ggX3_takeSemicolon_X3_next
set_option maxRecDepth 20000 in
theorem ggX3_takeSemicolon_X3_fail : GoodIn wsX3_takeSemicolon wsX3_fail := goodIn_r _ [18, 19, 20, 21, 22, 23, 24, 25, 26, 27, 28, 29, 30, 31, 32] (by decide +kernel) (by decide +kernel)
set_option maxRecDepth 20000 in
theorem gX3_takeSemicolon_X3_fail : GoodIn wsX3_takeSemicolon (wsV RX3 64 RX3 yX3_fail wsX3_fail) := goodIn_app (goodIn_of _ (by decide +kernel)) ggX3_takeSemicolon_X3_fail
theorem dX3_takeSemicolon_0 : decode cX3_takeSemicolon 0 = .ok (.aload_n 0, 1) := by decide +kernel
theorem dX3_takeSemicolon_1 : decode cX3_takeSemicolon 1 = .ok (.invokevirtual 45, 3) := by decide +kernel
theorem dX3_takeSemicolon_4 : decode cX3_takeSemicolon 4 = .ok (.ifCond .eq 27, 3) := by decide +kernel
theorem dX3_takeSemicolon_7 : decode cX3_takeSemicolon 7 = .ok (.aload_n 0, 1) := by decide +kernel
theorem dX3_takeSemicolon_8 : decode cX3_takeSemicolon 8 = .ok (.getfield 52, 3) := by decide +kernel
theorem dX3_takeSemicolon_11 : decode cX3_takeSemicolon 11 = .ok (.iconst 3, 1) := by decide +kernel
theorem dX3_takeSemicolon_12 : decode cX3_takeSemicolon 12 = .ok (.if_icmp .eq 15, 3) := by decide +kernel
theorem dX3_takeSemicolon_15 : decode cX3_takeSemicolon 15 = .ok (.aload_n 0, 1) := by decide +kernel
theorem dX3_takeSemicolon_16 : decode cX3_takeSemicolon 16 = .ok (.iconst 2, 1) := by decide +kernel
theorem dX3_takeSemicolon_17 : decode cX3_takeSemicolon 17 = .ok (.aload_n 0, 1) := by decide +kernel
theorem dX3_takeSemicolon_18 : decode cX3_takeSemicolon 18 = .ok (.getfield 90, 3) := by decide +kernel
theorem dX3_takeSemicolon_21 : decode cX3_takeSemicolon 21 = .ok (.invokevirtual 64, 3) := by decide +kernel
theorem dX3_takeSemicolon_24 : decode cX3_takeSemicolon 24 = .ok (.ifCond .eq 7, 3) := by decide +kernel
theorem dX3_takeSemicolon_27 : decode cX3_takeSemicolon 27 = .ok (.iconst 1, 1) := by decide +kernel
theorem dX3_takeSemicolon_28 : decode cX3_takeSemicolon 28 = .ok (.goto 4, 3) := by decide +kernel
theorem dX3_takeSemicolon_31 : decode cX3_takeSemicolon 31 = .ok (.iconst 0, 1) := by decide +kernel
theorem dX3_takeSemicolon_32 : decode cX3_takeSemicolon 32 = .ok (.ireturn, 1) := by decide +kernel
set_option maxRecDepth 20000 in
theorem ggX3_next_X3_sortAt : GoodIn wsX3_next wsX3_sortAt := goodIn_r _ [10, 2, 3, 17, 18, 19, 20, 21, 22, 23, 24, 25, 26, 27, 28] (by decide +kernel) (by decide +kernel)
set_option maxRecDepth 20000 in
theorem gX3_next_X3_sortAt : GoodIn wsX3_next (wsV RX3 139 RX3 yX3_sortAt wsX3_sortAt) := goodIn_app (goodIn_of _ (by decide +kernel)) ggX3_next_X3_sortAt
set_option maxRecDepth 20000 in
theorem ggX3_next_X3_fail : GoodIn wsX3_next wsX3_fail := goodIn_r _ [14, 15, 16, 17, 18, 19, 20, 21, 22, 23, 24, 25, 26, 27, 28] (by decide +kernel) (by decide +kernel)
set_option maxRecDepth 20000 in
theorem gX3_next_X3_fail : GoodIn wsX3_next (wsV RX3 64 RX3 yX3_fail wsX3_fail) := goodIn_app (goodIn_of _ (by decide +kernel)) ggX3_next_X3_fail
theorem dX3_next_0 : decode cX3_next 0 = .ok (.aload_n 0, 1) := by decide +kernel
theorem dX3_next_1 : decode cX3_next 1 = .ok (.getfield 35, 3) := by decide +kernel
theorem dX3_next_4 : decode cX3_next 4 = .ok (.aload_n 0, 1) := by decide +kernel
theorem dX3_next_5 : decode cX3_next 5 = .ok (.getfield 49, 3) := by decide +kernel
theorem dX3_next_8 : decode cX3_next 8 = .ok (.if_icmp .ge 30, 3) := by decide +kernel
theorem dX3_next_11 : decode cX3_next 11 = .ok (.aload_n 0, 1) := by decide +kernel
theorem dX3_next_12 : decode cX3_next 12 = .ok (.getfield 9, 3) := by decide +kernel
theorem dX3_next_15 : decode cX3_next 15 = .ok (.aload_n 0, 1) := by decide +kernel
theorem dX3_next_16 : decode cX3_next 16 = .ok (.getfield 35, 3) := by decide +kernel
theorem dX3_next_19 : decode cX3_next 19 = .ok (.iaload, 1) := by decide +kernel
theorem dX3_next_20 : decode cX3_next 20 = .ok (.bipush 32, 2) := by decide +kernel
theorem dX3_next_22 : decode cX3_next 22 = .ok (.if_icmp .ne 16, 3) := by decide +kernel
theorem dX3_next_25 : decode cX3_next 25 = .ok (.aload_n 0, 1) := by decide +kernel
theorem dX3_next_26 : decode cX3_next 26 = .ok (.dup, 1) := by decide +kernel
theorem dX3_next_27 : decode cX3_next 27 = .ok (.getfield 35, 3) := by decide +kernel
theorem dX3_next_30 : decode cX3_next 30 = .ok (.iconst 1, 1) := by decide +kernel
theorem dX3_next_31 : decode cX3_next 31 = .ok (.iadd, 1) := by decide +kernel
theorem dX3_next_32 : decode cX3_next 32 = .ok (.putfield 35, 3) := by decide +kernel
theorem dX3_next_35 : decode cX3_next 35 = .ok (.goto (-35), 3) := by decide +kernel
theorem dX3_next_38 : decode cX3_next 38 = .ok (.aload_n 0, 1) := by decide +kernel
theorem dX3_next_39 : decode cX3_next 39 = .ok (.aload_n 0, 1) := by decide +kernel
theorem dX3_next_40 : decode cX3_next 40 = .ok (.getfield 35, 3) := by decide +kernel
theorem dX3_next_43 : decode cX3_next 43 = .ok (.putfield 90, 3) := by decide +kernel
theorem dX3_next_46 : decode cX3_next 46 = .ok (.aload_n 0, 1) := by decide +kernel
theorem dX3_next_47 : decode cX3_next 47 = .ok (.aload_n 0, 1) := by decide +kernel
theorem dX3_next_48 : decode cX3_next 48 = .ok (.aload_n 0, 1) := by decide +kernel
theorem dX3_next_49 : decode cX3_next 49 = .ok (.getfield 35, 3) := by decide +kernel
theorem dX3_next_52 : decode cX3_next 52 = .ok (.invokevirtual 139, 3) := by decide +kernel
theorem dX3_next_55 : decode cX3_next 55 = .ok (.putfield 52, 3) := by decide +kernel
theorem dX3_next_58 : decode cX3_next 58 = .ok (.aload_n 0, 1) := by decide +kernel
theorem dX3_next_59 : decode cX3_next 59 = .ok (.getfield 52, 3) := by decide +kernel
theorem dX3_next_62 : decode cX3_next 62 = .ok (.iconst 1, 1) := by decide +kernel
theorem dX3_next_63 : decode cX3_next 63 = .ok (.if_icmp .eq 11, 3) := by decide +kernel
theorem dX3_next_66 : decode cX3_next 66 = .ok (.aload_n 0, 1) := by decide +kernel
theorem dX3_next_67 : decode cX3_next 67 = .ok (.getfield 52, 3) := by decide +kernel
theorem dX3_next_70 : decode cX3_next 70 = .ok (.iconst 2, 1) := by decide +kernel
theorem dX3_next_71 : decode cX3_next 71 = .ok (.if_icmp .ne 42, 3) := by decide +kernel
theorem dX3_next_74 : decode cX3_next 74 = .ok (.aload_n 0, 1) := by decide +kernel
theorem dX3_next_75 : decode cX3_next 75 = .ok (.getfield 35, 3) := by decide +kernel
theorem dX3_next_78 : decode cX3_next 78 = .ok (.aload_n 0, 1) := by decide +kernel
theorem dX3_next_79 : decode cX3_next 79 = .ok (.getfield 49, 3) := by decide +kernel
theorem dX3_next_82 : decode cX3_next 82 = .ok (.if_icmp .ge 49, 3) := by decide +kernel
theorem dX3_next_85 : decode cX3_next 85 = .ok (.aload_n 0, 1) := by decide +kernel
theorem dX3_next_86 : decode cX3_next 86 = .ok (.aload_n 0, 1) := by decide +kernel
theorem dX3_next_87 : decode cX3_next 87 = .ok (.getfield 35, 3) := by decide +kernel
theorem dX3_next_90 : decode cX3_next 90 = .ok (.invokevirtual 139, 3) := by decide +kernel
theorem dX3_next_93 : decode cX3_next 93 = .ok (.aload_n 0, 1) := by decide +kernel
theorem dX3_next_94 : decode cX3_next 94 = .ok (.getfield 52, 3) := by decide +kernel
theorem dX3_next_97 : decode cX3_next 97 = .ok (.if_icmp .ne 34, 3) := by decide +kernel
theorem dX3_next_100 : decode cX3_next 100 = .ok (.aload_n 0, 1) := by decide +kernel
theorem dX3_next_101 : decode cX3_next 101 = .ok (.dup, 1) := by decide +kernel
theorem dX3_next_102 : decode cX3_next 102 = .ok (.getfield 35, 3) := by decide +kernel
theorem dX3_next_105 : decode cX3_next 105 = .ok (.iconst 1, 1) := by decide +kernel
theorem dX3_next_106 : decode cX3_next 106 = .ok (.iadd, 1) := by decide +kernel
theorem dX3_next_107 : decode cX3_next 107 = .ok (.putfield 35, 3) := by decide +kernel
theorem dX3_next_110 : decode cX3_next 110 = .ok (.goto (-36), 3) := by decide +kernel
theorem dX3_next_113 : decode cX3_next 113 = .ok (.aload_n 0, 1) := by decide +kernel
theorem dX3_next_114 : decode cX3_next 114 = .ok (.getfield 52, 3) := by decide +kernel
theorem dX3_next_117 : decode cX3_next 117 = .ok (.iconst 3, 1) := by decide +kernel
theorem dX3_next_118 : decode cX3_next 118 = .ok (.if_icmp .ne 13, 3) := by decide +kernel
theorem dX3_next_121 : decode cX3_next 121 = .ok (.aload_n 0, 1) := by decide +kernel
theorem dX3_next_122 : decode cX3_next 122 = .ok (.dup, 1) := by decide +kernel
theorem dX3_next_123 : decode cX3_next 123 = .ok (.getfield 35, 3) := by decide +kernel
theorem dX3_next_126 : decode cX3_next 126 = .ok (.iconst 1, 1) := by decide +kernel
theorem dX3_next_127 : decode cX3_next 127 = .ok (.iadd, 1) := by decide +kernel
theorem dX3_next_128 : decode cX3_next 128 = .ok (.putfield 35, 3) := by decide +kernel
theorem dX3_next_131 : decode cX3_next 131 = .ok (.aload_n 0, 1) := by decide +kernel
theorem dX3_next_132 : decode cX3_next 132 = .ok (.getfield 52, 3) := by decide +kernel
theorem dX3_next_135 : decode cX3_next 135 = .ok (.iconst 2, 1) := by decide +kernel
theorem dX3_next_136 : decode cX3_next 136 = .ok (.if_icmp .ne 20, 3) := by decide +kernel
theorem dX3_next_139 : decode cX3_next 139 = .ok (.aload_n 0, 1) := by decide +kernel
theorem dX3_next_140 : decode cX3_next 140 = .ok (.getfield 35, 3) := by decide +kernel
theorem dX3_next_143 : decode cX3_next 143 = .ok (.aload_n 0, 1) := by decide +kernel
theorem dX3_next_144 : decode cX3_next 144 = .ok (.getfield 90, 3) := by decide +kernel
theorem dX3_next_147 : decode cX3_next 147 = .ok (.isub, 1) := by decide +kernel
theorem dX3_next_148 : decode cX3_next 148 = .ok (.iconst 2, 1) := by decide +kernel
theorem dX3_next_149 : decode cX3_next 149 = .ok (.if_icmp .le 7, 3) := by decide +kernel
theorem dX3_next_152 : decode cX3_next 152 = .ok (.iconst 1, 1) := by decide +kernel
theorem dX3_next_153 : decode cX3_next 153 = .ok (.goto 4, 3) := by decide +kernel
theorem dX3_next_156 : decode cX3_next 156 = .ok (.iconst 0, 1) := by decide +kernel
theorem dX3_next_157 : decode cX3_next 157 = .ok (.istore_n 1, 1) := by decide +kernel
theorem dX3_next_158 : decode cX3_next 158 = .ok (.aload_n 0, 1) := by decide +kernel
theorem dX3_next_159 : decode cX3_next 159 = .ok (.getfield 52, 3) := by decide +kernel
theorem dX3_next_162 : decode cX3_next 162 = .ok (.iconst 4, 1) := by decide +kernel
theorem dX3_next_163 : decode cX3_next 163 = .ok (.if_icmp .eq 7, 3) := by decide +kernel
theorem dX3_next_166 : decode cX3_next 166 = .ok (.iload_n 1, 1) := by decide +kernel
theorem dX3_next_167 : decode cX3_next 167 = .ok (.ifCond .eq 15, 3) := by decide +kernel
theorem dX3_next_170 : decode cX3_next 170 = .ok (.aload_n 0, 1) := by decide +kernel
theorem dX3_next_171 : decode cX3_next 171 = .ok (.iconst 1, 1) := by decide +kernel
theorem dX3_next_172 : decode cX3_next 172 = .ok (.aload_n 0, 1) := by decide +kernel
theorem dX3_next_173 : decode cX3_next 173 = .ok (.getfield 90, 3) := by decide +kernel
theorem dX3_next_176 : decode cX3_next 176 = .ok (.invokevirtual 64, 3) := by decide +kernel
theorem dX3_next_179 : decode cX3_next 179 = .ok (.ifCond .eq 7, 3) := by decide +kernel
theorem dX3_next_182 : decode cX3_next 182 = .ok (.iconst 1, 1) := by decide +kernel
theorem dX3_next_183 : decode cX3_next 183 = .ok (.goto 4, 3) := by decide +kernel
theorem dX3_next_186 : decode cX3_next 186 = .ok (.iconst 0, 1) := by decide +kernel
theorem dX3_next_187 : decode cX3_next 187 = .ok (.ireturn, 1) := by decide +kernel
theorem dX3_sortAt_0 : decode cX3_sortAt 0 = .ok (.iload_n 1, 1) := by decide +kernel
theorem dX3_sortAt_1 : decode cX3_sortAt 1 = .ok (.aload_n 0, 1) := by decide +kernel
theorem dX3_sortAt_2 : decode cX3_sortAt 2 = .ok (.getfield 49, 3) := by decide +kernel
theorem dX3_sortAt_5 : decode cX3_sortAt 5 = .ok (.if_icmp .lt 5, 3) := by decide +kernel
theorem dX3_sortAt_8 : decode cX3_sortAt 8 = .ok (.iconst 0, 1) := by decide +kernel
theorem dX3_sortAt_9 : decode cX3_sortAt 9 = .ok (.ireturn, 1) := by decide +kernel
theorem dX3_sortAt_10 : decode cX3_sortAt 10 = .ok (.aload_n 0, 1) := by decide +kernel
theorem dX3_sortAt_11 : decode cX3_sortAt 11 = .ok (.getfield 9, 3) := by decide +kernel
theorem dX3_sortAt_14 : decode cX3_sortAt 14 = .ok (.iload_n 1, 1) := by decide +kernel
theorem dX3_sortAt_15 : decode cX3_sortAt 15 = .ok (.iaload, 1) := by decide +kernel
theorem dX3_sortAt_16 : decode cX3_sortAt 16 = .ok (.istore_n 2, 1) := by decide +kernel
theorem dX3_sortAt_17 : decode cX3_sortAt 17 = .ok (.iload_n 2, 1) := by decide +kernel
theorem dX3_sortAt_18 : decode cX3_sortAt 18 = .ok (.bipush 97, 2) := by decide +kernel
theorem dX3_sortAt_20 : decode cX3_sortAt 20 = .ok (.if_icmp .lt 11, 3) := by decide +kernel
theorem dX3_sortAt_23 : decode cX3_sortAt 23 = .ok (.iload_n 2, 1) := by decide +kernel
theorem dX3_sortAt_24 : decode cX3_sortAt 24 = .ok (.bipush 122, 2) := by decide +kernel
theorem dX3_sortAt_26 : decode cX3_sortAt 26 = .ok (.if_icmp .gt 5, 3) := by decide +kernel
theorem dX3_sortAt_29 : decode cX3_sortAt 29 = .ok (.iconst 1, 1) := by decide +kernel
theorem dX3_sortAt_30 : decode cX3_sortAt 30 = .ok (.ireturn, 1) := by decide +kernel
theorem dX3_sortAt_31 : decode cX3_sortAt 31 = .ok (.iload_n 2, 1) := by decide +kernel
theorem dX3_sortAt_32 : decode cX3_sortAt 32 = .ok (.bipush 48, 2) := by decide +kernel
theorem dX3_sortAt_34 : decode cX3_sortAt 34 = .ok (.if_icmp .lt 11, 3) := by decide +kernel
theorem dX3_sortAt_37 : decode cX3_sortAt 37 = .ok (.iload_n 2, 1) := by decide +kernel
theorem dX3_sortAt_38 : decode cX3_sortAt 38 = .ok (.bipush 57, 2) := by decide +kernel
theorem dX3_sortAt_40 : decode cX3_sortAt 40 = .ok (.if_icmp .gt 5, 3) := by decide +kernel
theorem dX3_sortAt_43 : decode cX3_sortAt 43 = .ok (.iconst 2, 1) := by decide +kernel
theorem dX3_sortAt_44 : decode cX3_sortAt 44 = .ok (.ireturn, 1) := by decide +kernel
theorem dX3_sortAt_45 : decode cX3_sortAt 45 = .ok (.iload_n 2, 1) := by decide +kernel
theorem dX3_sortAt_46 : decode cX3_sortAt 46 = .ok (.bipush 59, 2) := by decide +kernel
theorem dX3_sortAt_48 : decode cX3_sortAt 48 = .ok (.if_icmp .ne 7, 3) := by decide +kernel
theorem dX3_sortAt_51 : decode cX3_sortAt 51 = .ok (.iconst 3, 1) := by decide +kernel
theorem dX3_sortAt_52 : decode cX3_sortAt 52 = .ok (.goto 4, 3) := by decide +kernel
theorem dX3_sortAt_55 : decode cX3_sortAt 55 = .ok (.iconst 4, 1) := by decide +kernel
theorem dX3_sortAt_56 : decode cX3_sortAt 56 = .ok (.ireturn, 1) := by decide +kernel
set_option maxRecDepth 20000 in
theorem ggX3_isName_J0_length_8abf5 : GoodIn wsX3_isName wsJ0_length_8abf5 := goodIn_r _ [9, 10, 11, 12, 13, 8, 14, 15, 16] (by decide +kernel) (by decide +kernel)
set_option maxRecDepth 20000 in
theorem gX3_isName_J0_length_8abf5 : GoodIn wsX3_isName (wsV RX3 143 RJ0 yJ0_length_8abf5 wsJ0_length_8abf5) := goodIn_app (goodIn_of _ (by decide +kernel)) ggX3_isName_J0_length_8abf5
set_option maxRecDepth 20000 in
theorem ggX3_isName_J0_charAt_5068e : GoodIn wsX3_isName wsJ0_charAt_5068e := goodIn_r _ [20, 10, 21, 22, 23, 8, 24, 15, 16, 25, 26, 27, 28, 29, 30, 31, 32, 33, 34, 35, 36, 37, 38, 39, 40, 41, 42, 43, 44, 45, 46, 47, 48, 49, 50, 51, 52, 53] (by decide +kernel) (by decide +kernel)
set_option maxRecDepth 20000 in
theorem gX3_isName_J0_charAt_5068e : GoodIn wsX3_isName (wsV RX3 147 RJ0 yJ0_charAt_5068e wsJ0_charAt_5068e) := goodIn_app (goodIn_of _ (by decide +kernel)) ggX3_isName_J0_charAt_5068e
theorem dX3_isName_0 : decode cX3_isName 0 = .ok (.aload_n 0, 1) := by decide +kernel
theorem dX3_isName_1 : decode cX3_isName 1 = .ok (.getfield 52, 3) := by decide +kernel
theorem dX3_isName_4 : decode cX3_isName 4 = .ok (.iconst 1, 1) := by decide +kernel
theorem dX3_isName_5 : decode cX3_isName 5 = .ok (.if_icmp .ne 19, 3) := by decide +kernel
theorem dX3_isName_8 : decode cX3_isName 8 = .ok (.aload_n 0, 1) := by decide +kernel
theorem dX3_isName_9 : decode cX3_isName 9 = .ok (.getfield 35, 3) := by decide +kernel
theorem dX3_isName_12 : decode cX3_isName 12 = .ok (.aload_n 0, 1) := by decide +kernel
theorem dX3_isName_13 : decode cX3_isName 13 = .ok (.getfield 90, 3) := by decide +kernel
theorem dX3_isName_16 : decode cX3_isName 16 = .ok (.isub, 1) := by decide +kernel
theorem dX3_isName_17 : decode cX3_isName 17 = .ok (.aload_n 1, 1) := by decide +kernel
theorem dX3_isName_18 : decode cX3_isName 18 = .ok (.invokevirtual 143, 3) := by decide +kernel
theorem dX3_isName_21 : decode cX3_isName 21 = .ok (.if_icmp .eq 5, 3) := by decide +kernel
theorem dX3_isName_24 : decode cX3_isName 24 = .ok (.iconst 0, 1) := by decide +kernel
theorem dX3_isName_25 : decode cX3_isName 25 = .ok (.ireturn, 1) := by decide +kernel
theorem dX3_isName_26 : decode cX3_isName 26 = .ok (.iconst 0, 1) := by decide +kernel
theorem dX3_isName_27 : decode cX3_isName 27 = .ok (.istore_n 2, 1) := by decide +kernel
theorem dX3_isName_28 : decode cX3_isName 28 = .ok (.iload_n 2, 1) := by decide +kernel
theorem dX3_isName_29 : decode cX3_isName 29 = .ok (.aload_n 1, 1) := by decide +kernel
theorem dX3_isName_30 : decode cX3_isName 30 = .ok (.invokevirtual 143, 3) := by decide +kernel
theorem dX3_isName_33 : decode cX3_isName 33 = .ok (.if_icmp .ge 30, 3) := by decide +kernel
theorem dX3_isName_36 : decode cX3_isName 36 = .ok (.aload_n 0, 1) := by decide +kernel
theorem dX3_isName_37 : decode cX3_isName 37 = .ok (.getfield 9, 3) := by decide +kernel
theorem dX3_isName_40 : decode cX3_isName 40 = .ok (.aload_n 0, 1) := by decide +kernel
theorem dX3_isName_41 : decode cX3_isName 41 = .ok (.getfield 90, 3) := by decide +kernel
theorem dX3_isName_44 : decode cX3_isName 44 = .ok (.iload_n 2, 1) := by decide +kernel
theorem dX3_isName_45 : decode cX3_isName 45 = .ok (.iadd, 1) := by decide +kernel
theorem dX3_isName_46 : decode cX3_isName 46 = .ok (.iaload, 1) := by decide +kernel
theorem dX3_isName_47 : decode cX3_isName 47 = .ok (.aload_n 1, 1) := by decide +kernel
theorem dX3_isName_48 : decode cX3_isName 48 = .ok (.iload_n 2, 1) := by decide +kernel
theorem dX3_isName_49 : decode cX3_isName 49 = .ok (.invokevirtual 147, 3) := by decide +kernel
theorem dX3_isName_52 : decode cX3_isName 52 = .ok (.if_icmp .eq 5, 3) := by decide +kernel
theorem dX3_isName_55 : decode cX3_isName 55 = .ok (.iconst 0, 1) := by decide +kernel
theorem dX3_isName_56 : decode cX3_isName 56 = .ok (.ireturn, 1) := by decide +kernel
theorem dX3_isName_57 : decode cX3_isName 57 = .ok (.iinc 2 1, 3) := by decide +kernel
theorem dX3_isName_60 : decode cX3_isName 60 = .ok (.goto (-32), 3) := by decide +kernel
theorem dX3_isName_63 : decode cX3_isName 63 = .ok (.iconst 1, 1) := by decide +kernel
theorem dX3_isName_64 : decode cX3_isName 64 = .ok (.ireturn, 1) := by decide +kernel
theorem dX4_init_0 : decode cX4_init 0 = .ok (.aload_n 0, 1) := by decide +kernel
theorem dX4_init_1 : decode cX4_init 1 = .ok (.invokespecial 3, 3) := by decide +kernel
theorem dX4_init_4 : decode cX4_init 4 = .ok (.aload_n 0, 1) := by decide +kernel
theorem dX4_init_5 : decode cX4_init 5 = .ok (.iconst 5, 1) := by decide +kernel
theorem dX4_init_6 : decode cX4_init 6 = .ok (.newarray .int, 2) := by decide +kernel
theorem dX4_init_8 : decode cX4_init 8 = .ok (.putfield 9, 3) := by decide +kernel
theorem dX4_init_11 : decode cX4_init 11 = .ok (.return_, 1) := by decide +kernel
set_option maxRecDepth 20000 in
theorem ggX4_find_X4_closes : GoodIn wsX4_find wsX4_closes := goodIn_r _ [8, 3, 2, 1, 9, 10, 11, 12, 13, 14, 15, 16, 17, 7, 18, 4, 5, 6, 26, 27, 19, 20, 21, 22, 23, 24, 25] (by decide +kernel) (by decide +kernel)
set_option maxRecDepth 20000 in
theorem gX4_find_X4_closes : GoodIn wsX4_find (wsV RX4 24 RX4 yX4_closes wsX4_closes) := goodIn_app (goodIn_of _ (by decide +kernel)) ggX4_find_X4_closes
theorem dX4_find_0 : decode cX4_find 0 = .ok (.iconst 2, 1) := by decide +kernel
theorem dX4_find_1 : decode cX4_find 1 = .ok (.istore_n 2, 1) := by decide +kernel
theorem dX4_find_2 : decode cX4_find 2 = .ok (.iload_n 2, 1) := by decide +kernel
theorem dX4_find_3 : decode cX4_find 3 = .ok (.aload_n 1, 1) := by decide +kernel
theorem dX4_find_4 : decode cX4_find 4 = .ok (.getfield 15, 3) := by decide +kernel
theorem dX4_find_7 : decode cX4_find 7 = .ok (.if_icmp .gt 48, 3) := by decide +kernel
theorem dX4_find_10 : decode cX4_find 10 = .ok (.aload_n 0, 1) := by decide +kernel
theorem dX4_find_11 : decode cX4_find 11 = .ok (.iload_n 2, 1) := by decide +kernel
theorem dX4_find_12 : decode cX4_find 12 = .ok (.putfield 21, 3) := by decide +kernel
theorem dX4_find_15 : decode cX4_find 15 = .ok (.iconst 0, 1) := by decide +kernel
theorem dX4_find_16 : decode cX4_find 16 = .ok (.istore_n 3, 1) := by decide +kernel
theorem dX4_find_17 : decode cX4_find 17 = .ok (.iload_n 3, 1) := by decide +kernel
theorem dX4_find_18 : decode cX4_find 18 = .ok (.aload_n 1, 1) := by decide +kernel
theorem dX4_find_19 : decode cX4_find 19 = .ok (.getfield 15, 3) := by decide +kernel
theorem dX4_find_22 : decode cX4_find 22 = .ok (.if_icmp .ge 27, 3) := by decide +kernel
theorem dX4_find_25 : decode cX4_find 25 = .ok (.aload_n 0, 1) := by decide +kernel
theorem dX4_find_26 : decode cX4_find 26 = .ok (.getfield 9, 3) := by decide +kernel
theorem dX4_find_29 : decode cX4_find 29 = .ok (.iconst 0, 1) := by decide +kernel
theorem dX4_find_30 : decode cX4_find 30 = .ok (.iload_n 3, 1) := by decide +kernel
theorem dX4_find_31 : decode cX4_find 31 = .ok (.iastore, 1) := by decide +kernel
theorem dX4_find_32 : decode cX4_find 32 = .ok (.aload_n 0, 1) := by decide +kernel
theorem dX4_find_33 : decode cX4_find 33 = .ok (.aload_n 1, 1) := by decide +kernel
theorem dX4_find_34 : decode cX4_find 34 = .ok (.iconst 1, 1) := by decide +kernel
theorem dX4_find_35 : decode cX4_find 35 = .ok (.invokevirtual 24, 3) := by decide +kernel
theorem dX4_find_38 : decode cX4_find 38 = .ok (.ifCond .eq 5, 3) := by decide +kernel
theorem dX4_find_41 : decode cX4_find 41 = .ok (.iconst 1, 1) := by decide +kernel
theorem dX4_find_42 : decode cX4_find 42 = .ok (.ireturn, 1) := by decide +kernel
theorem dX4_find_43 : decode cX4_find 43 = .ok (.iinc 3 1, 3) := by decide +kernel
theorem dX4_find_46 : decode cX4_find 46 = .ok (.goto (-29), 3) := by decide +kernel
theorem dX4_find_49 : decode cX4_find 49 = .ok (.iinc 2 1, 3) := by decide +kernel
theorem dX4_find_52 : decode cX4_find 52 = .ok (.goto (-50), 3) := by decide +kernel
theorem dX4_find_55 : decode cX4_find 55 = .ok (.aload_n 0, 1) := by decide +kernel
theorem dX4_find_56 : decode cX4_find 56 = .ok (.iconst 0, 1) := by decide +kernel
theorem dX4_find_57 : decode cX4_find 57 = .ok (.putfield 21, 3) := by decide +kernel
theorem dX4_find_60 : decode cX4_find 60 = .ok (.iconst 0, 1) := by decide +kernel
theorem dX4_find_61 : decode cX4_find 61 = .ok (.ireturn, 1) := by decide +kernel
set_option maxRecDepth 20000 in
theorem ggX4_closes_X1_debt : GoodIn wsX4_closes wsX1_debt := goodIn_r _ [8, 9, 20, 21, 22, 23, 24, 25, 26] (by decide +kernel) (by decide +kernel)
set_option maxRecDepth 20000 in
theorem gX4_closes_X1_debt : GoodIn wsX4_closes (wsV RX4 28 RX1 yX1_debt wsX1_debt) := goodIn_app (goodIn_of _ (by decide +kernel)) ggX4_closes_X1_debt
set_option maxRecDepth 20000 in
theorem ggX4_closes_X4_stands : GoodIn wsX4_closes wsX4_stands := goodIn_r _ [14, 1, 18, 19] (by decide +kernel) (by decide +kernel)
set_option maxRecDepth 20000 in
theorem gX4_closes_X4_stands : GoodIn wsX4_closes (wsV RX4 32 RX4 yX4_stands wsX4_stands) := goodIn_app (goodIn_of _ (by decide +kernel)) ggX4_closes_X4_stands
set_option maxRecDepth 20000 in
theorem ggX4_closes_X4_closes : GoodIn wsX4_closes wsX4_closes := goodIn_r _ [0, 1, 2, 3, 4, 5, 6, 7, 8, 9, 10, 11, 12, 13, 14, 15, 16, 17, 18, 19, 20, 21, 22, 23, 24, 25, 26] (by decide +kernel) (by decide +kernel)
set_option maxRecDepth 20000 in
theorem gX4_closes_X4_closes : GoodIn wsX4_closes (wsV RX4 24 RX4 yX4_closes wsX4_closes) := goodIn_app (goodIn_of _ (by decide +kernel)) ggX4_closes_X4_closes
theorem dX4_closes_0 : decode cX4_closes 0 = .ok (.aload_n 0, 1) := by decide +kernel
theorem dX4_closes_1 : decode cX4_closes 1 = .ok (.getfield 9, 3) := by decide +kernel
theorem dX4_closes_4 : decode cX4_closes 4 = .ok (.iload_n 2, 1) := by decide +kernel
theorem dX4_closes_5 : decode cX4_closes 5 = .ok (.iconst 1, 1) := by decide +kernel
theorem dX4_closes_6 : decode cX4_closes 6 = .ok (.isub, 1) := by decide +kernel
theorem dX4_closes_7 : decode cX4_closes 7 = .ok (.iaload, 1) := by decide +kernel
theorem dX4_closes_8 : decode cX4_closes 8 = .ok (.istore_n 3, 1) := by decide +kernel
theorem dX4_closes_9 : decode cX4_closes 9 = .ok (.iload_n 2, 1) := by decide +kernel
theorem dX4_closes_10 : decode cX4_closes 10 = .ok (.aload_n 0, 1) := by decide +kernel
theorem dX4_closes_11 : decode cX4_closes 11 = .ok (.getfield 21, 3) := by decide +kernel
theorem dX4_closes_14 : decode cX4_closes 14 = .ok (.if_icmp .lt 23, 3) := by decide +kernel
theorem dX4_closes_17 : decode cX4_closes 17 = .ok (.aload_n 1, 1) := by decide +kernel
theorem dX4_closes_18 : decode cX4_closes 18 = .ok (.iload_n 3, 1) := by decide +kernel
theorem dX4_closes_19 : decode cX4_closes 19 = .ok (.aload_n 0, 1) := by decide +kernel
theorem dX4_closes_20 : decode cX4_closes 20 = .ok (.getfield 9, 3) := by decide +kernel
theorem dX4_closes_23 : decode cX4_closes 23 = .ok (.iconst 0, 1) := by decide +kernel
theorem dX4_closes_24 : decode cX4_closes 24 = .ok (.iaload, 1) := by decide +kernel
theorem dX4_closes_25 : decode cX4_closes 25 = .ok (.invokevirtual 28, 3) := by decide +kernel
theorem dX4_closes_28 : decode cX4_closes 28 = .ok (.ifCond .le 7, 3) := by decide +kernel
theorem dX4_closes_31 : decode cX4_closes 31 = .ok (.iconst 1, 1) := by decide +kernel
theorem dX4_closes_32 : decode cX4_closes 32 = .ok (.goto 4, 3) := by decide +kernel
theorem dX4_closes_35 : decode cX4_closes 35 = .ok (.iconst 0, 1) := by decide +kernel
theorem dX4_closes_36 : decode cX4_closes 36 = .ok (.ireturn, 1) := by decide +kernel
theorem dX4_closes_37 : decode cX4_closes 37 = .ok (.aload_n 0, 1) := by decide +kernel
theorem dX4_closes_38 : decode cX4_closes 38 = .ok (.getfield 9, 3) := by decide +kernel
theorem dX4_closes_41 : decode cX4_closes 41 = .ok (.iconst 0, 1) := by decide +kernel
theorem dX4_closes_42 : decode cX4_closes 42 = .ok (.iaload, 1) := by decide +kernel
theorem dX4_closes_43 : decode cX4_closes 43 = .ok (.iconst 1, 1) := by decide +kernel
theorem dX4_closes_44 : decode cX4_closes 44 = .ok (.iadd, 1) := by decide +kernel
theorem dX4_closes_45 : decode cX4_closes 45 = .ok (.istore 4, 2) := by decide +kernel
theorem dX4_closes_47 : decode cX4_closes 47 = .ok (.iload 4, 2) := by decide +kernel
theorem dX4_closes_49 : decode cX4_closes 49 = .ok (.aload_n 1, 1) := by decide +kernel
theorem dX4_closes_50 : decode cX4_closes 50 = .ok (.getfield 15, 3) := by decide +kernel
theorem dX4_closes_53 : decode cX4_closes 53 = .ok (.if_icmp .ge 50, 3) := by decide +kernel
theorem dX4_closes_56 : decode cX4_closes 56 = .ok (.aload_n 1, 1) := by decide +kernel
theorem dX4_closes_57 : decode cX4_closes 57 = .ok (.iload_n 3, 1) := by decide +kernel
theorem dX4_closes_58 : decode cX4_closes 58 = .ok (.iload 4, 2) := by decide +kernel
theorem dX4_closes_60 : decode cX4_closes 60 = .ok (.invokevirtual 28, 3) := by decide +kernel
theorem dX4_closes_63 : decode cX4_closes 63 = .ok (.ifCond .le 34, 3) := by decide +kernel
theorem dX4_closes_66 : decode cX4_closes 66 = .ok (.aload_n 0, 1) := by decide +kernel
theorem dX4_closes_67 : decode cX4_closes 67 = .ok (.iload 4, 2) := by decide +kernel
theorem dX4_closes_69 : decode cX4_closes 69 = .ok (.iload_n 2, 1) := by decide +kernel
theorem dX4_closes_70 : decode cX4_closes 70 = .ok (.invokevirtual 32, 3) := by decide +kernel
theorem dX4_closes_73 : decode cX4_closes 73 = .ok (.ifCond .ne 24, 3) := by decide +kernel
theorem dX4_closes_76 : decode cX4_closes 76 = .ok (.aload_n 0, 1) := by decide +kernel
theorem dX4_closes_77 : decode cX4_closes 77 = .ok (.getfield 9, 3) := by decide +kernel
theorem dX4_closes_80 : decode cX4_closes 80 = .ok (.iload_n 2, 1) := by decide +kernel
theorem dX4_closes_81 : decode cX4_closes 81 = .ok (.iload 4, 2) := by decide +kernel
theorem dX4_closes_83 : decode cX4_closes 83 = .ok (.iastore, 1) := by decide +kernel
theorem dX4_closes_84 : decode cX4_closes 84 = .ok (.aload_n 0, 1) := by decide +kernel
theorem dX4_closes_85 : decode cX4_closes 85 = .ok (.aload_n 1, 1) := by decide +kernel
theorem dX4_closes_86 : decode cX4_closes 86 = .ok (.iload_n 2, 1) := by decide +kernel
theorem dX4_closes_87 : decode cX4_closes 87 = .ok (.iconst 1, 1) := by decide +kernel
theorem dX4_closes_88 : decode cX4_closes 88 = .ok (.iadd, 1) := by decide +kernel
theorem dX4_closes_89 : decode cX4_closes 89 = .ok (.invokevirtual 24, 3) := by decide +kernel
theorem dX4_closes_92 : decode cX4_closes 92 = .ok (.ifCond .eq 5, 3) := by decide +kernel
theorem dX4_closes_95 : decode cX4_closes 95 = .ok (.iconst 1, 1) := by decide +kernel
theorem dX4_closes_96 : decode cX4_closes 96 = .ok (.ireturn, 1) := by decide +kernel
theorem dX4_closes_97 : decode cX4_closes 97 = .ok (.iinc 4 1, 3) := by decide +kernel
theorem dX4_closes_100 : decode cX4_closes 100 = .ok (.goto (-53), 3) := by decide +kernel
theorem dX4_closes_103 : decode cX4_closes 103 = .ok (.iconst 0, 1) := by decide +kernel
theorem dX4_closes_104 : decode cX4_closes 104 = .ok (.ireturn, 1) := by decide +kernel
theorem dX4_stands_0 : decode cX4_stands 0 = .ok (.iconst 0, 1) := by decide +kernel
theorem dX4_stands_1 : decode cX4_stands 1 = .ok (.istore_n 3, 1) := by decide +kernel
theorem dX4_stands_2 : decode cX4_stands 2 = .ok (.iload_n 3, 1) := by decide +kernel
theorem dX4_stands_3 : decode cX4_stands 3 = .ok (.iload_n 2, 1) := by decide +kernel
theorem dX4_stands_4 : decode cX4_stands 4 = .ok (.if_icmp .ge 21, 3) := by decide +kernel
theorem dX4_stands_7 : decode cX4_stands 7 = .ok (.aload_n 0, 1) := by decide +kernel
theorem dX4_stands_8 : decode cX4_stands 8 = .ok (.getfield 9, 3) := by decide +kernel
theorem dX4_stands_11 : decode cX4_stands 11 = .ok (.iload_n 3, 1) := by decide +kernel
theorem dX4_stands_12 : decode cX4_stands 12 = .ok (.iaload, 1) := by decide +kernel
theorem dX4_stands_13 : decode cX4_stands 13 = .ok (.iload_n 1, 1) := by decide +kernel
theorem dX4_stands_14 : decode cX4_stands 14 = .ok (.if_icmp .ne 5, 3) := by decide +kernel
theorem dX4_stands_17 : decode cX4_stands 17 = .ok (.iconst 1, 1) := by decide +kernel
theorem dX4_stands_18 : decode cX4_stands 18 = .ok (.ireturn, 1) := by decide +kernel
theorem dX4_stands_19 : decode cX4_stands 19 = .ok (.iinc 3 1, 3) := by decide +kernel
theorem dX4_stands_22 : decode cX4_stands 22 = .ok (.goto (-20), 3) := by decide +kernel
theorem dX4_stands_25 : decode cX4_stands 25 = .ok (.iconst 0, 1) := by decide +kernel
theorem dX4_stands_26 : decode cX4_stands 26 = .ok (.ireturn, 1) := by decide +kernel
theorem dX4_behind_0 : decode cX4_behind 0 = .ok (.iload_n 1, 1) := by decide +kernel
theorem dX4_behind_1 : decode cX4_behind 1 = .ok (.iconst 1, 1) := by decide +kernel
theorem dX4_behind_2 : decode cX4_behind 2 = .ok (.iadd, 1) := by decide +kernel
theorem dX4_behind_3 : decode cX4_behind 3 = .ok (.aload_n 0, 1) := by decide +kernel
theorem dX4_behind_4 : decode cX4_behind 4 = .ok (.getfield 21, 3) := by decide +kernel
theorem dX4_behind_7 : decode cX4_behind 7 = .ok (.if_icmp .ge 14, 3) := by decide +kernel
theorem dX4_behind_10 : decode cX4_behind 10 = .ok (.aload_n 0, 1) := by decide +kernel
theorem dX4_behind_11 : decode cX4_behind 11 = .ok (.getfield 9, 3) := by decide +kernel
theorem dX4_behind_14 : decode cX4_behind 14 = .ok (.iload_n 1, 1) := by decide +kernel
theorem dX4_behind_15 : decode cX4_behind 15 = .ok (.iconst 1, 1) := by decide +kernel
theorem dX4_behind_16 : decode cX4_behind 16 = .ok (.iadd, 1) := by decide +kernel
theorem dX4_behind_17 : decode cX4_behind 17 = .ok (.iaload, 1) := by decide +kernel
theorem dX4_behind_18 : decode cX4_behind 18 = .ok (.goto 9, 3) := by decide +kernel
theorem dX4_behind_21 : decode cX4_behind 21 = .ok (.aload_n 0, 1) := by decide +kernel
theorem dX4_behind_22 : decode cX4_behind 22 = .ok (.getfield 9, 3) := by decide +kernel
theorem dX4_behind_25 : decode cX4_behind 25 = .ok (.iconst 0, 1) := by decide +kernel
theorem dX4_behind_26 : decode cX4_behind 26 = .ok (.iaload, 1) := by decide +kernel
theorem dX4_behind_27 : decode cX4_behind 27 = .ok (.ireturn, 1) := by decide +kernel
set_option maxRecDepth 20000 in
theorem ggX4_leastDebt_X4_behind : GoodIn wsX4_leastDebt wsX4_behind := goodIn_r _ [11, 1, 2, 18, 19] (by decide +kernel) (by decide +kernel)
set_option maxRecDepth 20000 in
theorem gX4_leastDebt_X4_behind : GoodIn wsX4_leastDebt (wsV RX4 36 RX4 yX4_behind wsX4_behind) := goodIn_app (goodIn_of _ (by decide +kernel)) ggX4_leastDebt_X4_behind
set_option maxRecDepth 20000 in
theorem ggX4_leastDebt_X1_debt : GoodIn wsX4_leastDebt wsX1_debt := goodIn_r _ [16, 17, 20, 21, 22, 23, 24, 25, 26] (by decide +kernel) (by decide +kernel)
set_option maxRecDepth 20000 in
theorem gX4_leastDebt_X1_debt : GoodIn wsX4_leastDebt (wsV RX4 28 RX1 yX1_debt wsX1_debt) := goodIn_app (goodIn_of _ (by decide +kernel)) ggX4_leastDebt_X1_debt
theorem dX4_leastDebt_0 : decode cX4_leastDebt 0 = .ok (.bipush 99, 2) := by decide +kernel
theorem dX4_leastDebt_2 : decode cX4_leastDebt 2 = .ok (.istore_n 2, 1) := by decide +kernel
theorem dX4_leastDebt_3 : decode cX4_leastDebt 3 = .ok (.iconst 0, 1) := by decide +kernel
theorem dX4_leastDebt_4 : decode cX4_leastDebt 4 = .ok (.istore_n 3, 1) := by decide +kernel
theorem dX4_leastDebt_5 : decode cX4_leastDebt 5 = .ok (.iload_n 3, 1) := by decide +kernel
theorem dX4_leastDebt_6 : decode cX4_leastDebt 6 = .ok (.aload_n 0, 1) := by decide +kernel
theorem dX4_leastDebt_7 : decode cX4_leastDebt 7 = .ok (.getfield 21, 3) := by decide +kernel
theorem dX4_leastDebt_10 : decode cX4_leastDebt 10 = .ok (.if_icmp .ge 29, 3) := by decide +kernel
theorem dX4_leastDebt_13 : decode cX4_leastDebt 13 = .ok (.iload_n 2, 1) := by decide +kernel
theorem dX4_leastDebt_14 : decode cX4_leastDebt 14 = .ok (.aload_n 1, 1) := by decide +kernel
theorem dX4_leastDebt_15 : decode cX4_leastDebt 15 = .ok (.aload_n 0, 1) := by decide +kernel
theorem dX4_leastDebt_16 : decode cX4_leastDebt 16 = .ok (.getfield 9, 3) := by decide +kernel
theorem dX4_leastDebt_19 : decode cX4_leastDebt 19 = .ok (.iload_n 3, 1) := by decide +kernel
theorem dX4_leastDebt_20 : decode cX4_leastDebt 20 = .ok (.iaload, 1) := by decide +kernel
theorem dX4_leastDebt_21 : decode cX4_leastDebt 21 = .ok (.aload_n 0, 1) := by decide +kernel
theorem dX4_leastDebt_22 : decode cX4_leastDebt 22 = .ok (.iload_n 3, 1) := by decide +kernel
theorem dX4_leastDebt_23 : decode cX4_leastDebt 23 = .ok (.invokevirtual 36, 3) := by decide +kernel
theorem dX4_leastDebt_26 : decode cX4_leastDebt 26 = .ok (.invokevirtual 28, 3) := by decide +kernel
theorem dX4_leastDebt_29 : decode cX4_leastDebt 29 = .ok (.invokestatic 40, 3) := by decide +kernel
theorem dX4_leastDebt_32 : decode cX4_leastDebt 32 = .ok (.istore_n 2, 1) := by decide +kernel
theorem dX4_leastDebt_33 : decode cX4_leastDebt 33 = .ok (.iinc 3 1, 3) := by decide +kernel
theorem dX4_leastDebt_36 : decode cX4_leastDebt 36 = .ok (.goto (-31), 3) := by decide +kernel
theorem dX4_leastDebt_39 : decode cX4_leastDebt 39 = .ok (.iload_n 2, 1) := by decide +kernel
theorem dX4_leastDebt_40 : decode cX4_leastDebt 40 = .ok (.ireturn, 1) := by decide +kernel
set_option maxRecDepth 20000 in
theorem ggX4_lessen_X4_behind : GoodIn wsX4_lessen wsX4_behind := goodIn_r _ [7, 1, 2, 18, 19] (by decide +kernel) (by decide +kernel)
set_option maxRecDepth 20000 in
theorem gX4_lessen_X4_behind : GoodIn wsX4_lessen (wsV RX4 36 RX4 yX4_behind wsX4_behind) := goodIn_app (goodIn_of _ (by decide +kernel)) ggX4_lessen_X4_behind
set_option maxRecDepth 20000 in
theorem ggX4_lessen_X1_debt : GoodIn wsX4_lessen wsX1_debt := goodIn_r _ [12, 13, 20, 21, 22, 23, 24, 25, 26] (by decide +kernel) (by decide +kernel)
set_option maxRecDepth 20000 in
theorem gX4_lessen_X1_debt : GoodIn wsX4_lessen (wsV RX4 28 RX1 yX1_debt wsX1_debt) := goodIn_app (goodIn_of _ (by decide +kernel)) ggX4_lessen_X1_debt
set_option maxRecDepth 20000 in
theorem ggX4_lessen_X1_setDebt : GoodIn wsX4_lessen wsX1_setDebt := goodIn_r _ [17, 13, 20, 21, 22, 23, 24, 25, 26] (by decide +kernel) (by decide +kernel)
set_option maxRecDepth 20000 in
theorem gX4_lessen_X1_setDebt : GoodIn wsX4_lessen (wsV RX4 45 RX1 yX1_setDebt wsX1_setDebt) := goodIn_app (goodIn_of _ (by decide +kernel)) ggX4_lessen_X1_setDebt
theorem dX4_lessen_0 : decode cX4_lessen 0 = .ok (.iconst 0, 1) := by decide +kernel
theorem dX4_lessen_1 : decode cX4_lessen 1 = .ok (.istore_n 3, 1) := by decide +kernel
theorem dX4_lessen_2 : decode cX4_lessen 2 = .ok (.iload_n 3, 1) := by decide +kernel
theorem dX4_lessen_3 : decode cX4_lessen 3 = .ok (.aload_n 0, 1) := by decide +kernel
theorem dX4_lessen_4 : decode cX4_lessen 4 = .ok (.getfield 21, 3) := by decide +kernel
theorem dX4_lessen_7 : decode cX4_lessen 7 = .ok (.if_icmp .ge 41, 3) := by decide +kernel
theorem dX4_lessen_10 : decode cX4_lessen 10 = .ok (.aload_n 1, 1) := by decide +kernel
theorem dX4_lessen_11 : decode cX4_lessen 11 = .ok (.aload_n 0, 1) := by decide +kernel
theorem dX4_lessen_12 : decode cX4_lessen 12 = .ok (.getfield 9, 3) := by decide +kernel
theorem dX4_lessen_15 : decode cX4_lessen 15 = .ok (.iload_n 3, 1) := by decide +kernel
theorem dX4_lessen_16 : decode cX4_lessen 16 = .ok (.iaload, 1) := by decide +kernel
theorem dX4_lessen_17 : decode cX4_lessen 17 = .ok (.aload_n 0, 1) := by decide +kernel
theorem dX4_lessen_18 : decode cX4_lessen 18 = .ok (.iload_n 3, 1) := by decide +kernel
theorem dX4_lessen_19 : decode cX4_lessen 19 = .ok (.invokevirtual 36, 3) := by decide +kernel
theorem dX4_lessen_22 : decode cX4_lessen 22 = .ok (.aload_n 1, 1) := by decide +kernel
theorem dX4_lessen_23 : decode cX4_lessen 23 = .ok (.aload_n 0, 1) := by decide +kernel
theorem dX4_lessen_24 : decode cX4_lessen 24 = .ok (.getfield 9, 3) := by decide +kernel
theorem dX4_lessen_27 : decode cX4_lessen 27 = .ok (.iload_n 3, 1) := by decide +kernel
theorem dX4_lessen_28 : decode cX4_lessen 28 = .ok (.iaload, 1) := by decide +kernel
theorem dX4_lessen_29 : decode cX4_lessen 29 = .ok (.aload_n 0, 1) := by decide +kernel
theorem dX4_lessen_30 : decode cX4_lessen 30 = .ok (.iload_n 3, 1) := by decide +kernel
theorem dX4_lessen_31 : decode cX4_lessen 31 = .ok (.invokevirtual 36, 3) := by decide +kernel
theorem dX4_lessen_34 : decode cX4_lessen 34 = .ok (.invokevirtual 28, 3) := by decide +kernel
theorem dX4_lessen_37 : decode cX4_lessen 37 = .ok (.iload_n 2, 1) := by decide +kernel
theorem dX4_lessen_38 : decode cX4_lessen 38 = .ok (.isub, 1) := by decide +kernel
theorem dX4_lessen_39 : decode cX4_lessen 39 = .ok (.invokevirtual 45, 3) := by decide +kernel
theorem dX4_lessen_42 : decode cX4_lessen 42 = .ok (.iinc 3 1, 3) := by decide +kernel
theorem dX4_lessen_45 : decode cX4_lessen 45 = .ok (.goto (-43), 3) := by decide +kernel
theorem dX4_lessen_48 : decode cX4_lessen 48 = .ok (.return_, 1) := by decide +kernel
theorem dX5_init_0 : decode cX5_init 0 = .ok (.aload_n 0, 1) := by decide +kernel
theorem dX5_init_1 : decode cX5_init 1 = .ok (.invokespecial 3, 3) := by decide +kernel
theorem dX5_init_4 : decode cX5_init 4 = .ok (.aload_n 0, 1) := by decide +kernel
theorem dX5_init_5 : decode cX5_init 5 = .ok (.bipush 6, 2) := by decide +kernel
theorem dX5_init_7 : decode cX5_init 7 = .ok (.newarray .int, 2) := by decide +kernel
theorem dX5_init_9 : decode cX5_init 9 = .ok (.putfield 9, 3) := by decide +kernel
theorem dX5_init_12 : decode cX5_init 12 = .ok (.aload_n 0, 1) := by decide +kernel
theorem dX5_init_13 : decode cX5_init 13 = .ok (.bipush 6, 2) := by decide +kernel
theorem dX5_init_15 : decode cX5_init 15 = .ok (.newarray .int, 2) := by decide +kernel
theorem dX5_init_17 : decode cX5_init 17 = .ok (.putfield 15, 3) := by decide +kernel
theorem dX5_init_20 : decode cX5_init 20 = .ok (.aload_n 0, 1) := by decide +kernel
theorem dX5_init_21 : decode cX5_init 21 = .ok (.bipush 6, 2) := by decide +kernel
theorem dX5_init_23 : decode cX5_init 23 = .ok (.newarray .int, 2) := by decide +kernel
theorem dX5_init_25 : decode cX5_init 25 = .ok (.putfield 18, 3) := by decide +kernel
theorem dX5_init_28 : decode cX5_init 28 = .ok (.return_, 1) := by decide +kernel
theorem dX5_add_0 : decode cX5_add 0 = .ok (.aload_n 0, 1) := by decide +kernel
theorem dX5_add_1 : decode cX5_add 1 = .ok (.getfield 21, 3) := by decide +kernel
theorem dX5_add_4 : decode cX5_add 4 = .ok (.bipush 6, 2) := by decide +kernel
theorem dX5_add_6 : decode cX5_add 6 = .ok (.if_icmp .ge 51, 3) := by decide +kernel
theorem dX5_add_9 : decode cX5_add 9 = .ok (.aload_n 0, 1) := by decide +kernel
theorem dX5_add_10 : decode cX5_add 10 = .ok (.getfield 9, 3) := by decide +kernel
theorem dX5_add_13 : decode cX5_add 13 = .ok (.aload_n 0, 1) := by decide +kernel
theorem dX5_add_14 : decode cX5_add 14 = .ok (.getfield 21, 3) := by decide +kernel
theorem dX5_add_17 : decode cX5_add 17 = .ok (.iload_n 1, 1) := by decide +kernel
theorem dX5_add_18 : decode cX5_add 18 = .ok (.iastore, 1) := by decide +kernel
theorem dX5_add_19 : decode cX5_add 19 = .ok (.aload_n 0, 1) := by decide +kernel
theorem dX5_add_20 : decode cX5_add 20 = .ok (.getfield 15, 3) := by decide +kernel
theorem dX5_add_23 : decode cX5_add 23 = .ok (.aload_n 0, 1) := by decide +kernel
theorem dX5_add_24 : decode cX5_add 24 = .ok (.getfield 21, 3) := by decide +kernel
theorem dX5_add_27 : decode cX5_add 27 = .ok (.iload_n 2, 1) := by decide +kernel
theorem dX5_add_28 : decode cX5_add 28 = .ok (.iastore, 1) := by decide +kernel
theorem dX5_add_29 : decode cX5_add 29 = .ok (.aload_n 0, 1) := by decide +kernel
theorem dX5_add_30 : decode cX5_add 30 = .ok (.getfield 18, 3) := by decide +kernel
theorem dX5_add_33 : decode cX5_add 33 = .ok (.aload_n 0, 1) := by decide +kernel
theorem dX5_add_34 : decode cX5_add 34 = .ok (.getfield 21, 3) := by decide +kernel
theorem dX5_add_37 : decode cX5_add 37 = .ok (.iload_n 3, 1) := by decide +kernel
theorem dX5_add_38 : decode cX5_add 38 = .ok (.ifCond .eq 7, 3) := by decide +kernel
theorem dX5_add_41 : decode cX5_add 41 = .ok (.iconst 1, 1) := by decide +kernel
theorem dX5_add_42 : decode cX5_add 42 = .ok (.goto 4, 3) := by decide +kernel
theorem dX5_add_45 : decode cX5_add 45 = .ok (.iconst 0, 1) := by decide +kernel
theorem dX5_add_46 : decode cX5_add 46 = .ok (.iastore, 1) := by decide +kernel
theorem dX5_add_47 : decode cX5_add 47 = .ok (.aload_n 0, 1) := by decide +kernel
theorem dX5_add_48 : decode cX5_add 48 = .ok (.dup, 1) := by decide +kernel
theorem dX5_add_49 : decode cX5_add 49 = .ok (.getfield 21, 3) := by decide +kernel
theorem dX5_add_52 : decode cX5_add 52 = .ok (.iconst 1, 1) := by decide +kernel
theorem dX5_add_53 : decode cX5_add 53 = .ok (.iadd, 1) := by decide +kernel
theorem dX5_add_54 : decode cX5_add 54 = .ok (.putfield 21, 3) := by decide +kernel
theorem dX5_add_57 : decode cX5_add 57 = .ok (.return_, 1) := by decide +kernel
theorem dX5_become_0 : decode cX5_become 0 = .ok (.aload_n 0, 1) := by decide +kernel
theorem dX5_become_1 : decode cX5_become 1 = .ok (.aload_n 1, 1) := by decide +kernel
theorem dX5_become_2 : decode cX5_become 2 = .ok (.getfield 21, 3) := by decide +kernel
theorem dX5_become_5 : decode cX5_become 5 = .ok (.putfield 21, 3) := by decide +kernel
theorem dX5_become_8 : decode cX5_become 8 = .ok (.aload_n 1, 1) := by decide +kernel
theorem dX5_become_9 : decode cX5_become 9 = .ok (.getfield 9, 3) := by decide +kernel
theorem dX5_become_12 : decode cX5_become 12 = .ok (.iconst 0, 1) := by decide +kernel
theorem dX5_become_13 : decode cX5_become 13 = .ok (.aload_n 0, 1) := by decide +kernel
theorem dX5_become_14 : decode cX5_become 14 = .ok (.getfield 9, 3) := by decide +kernel
theorem dX5_become_17 : decode cX5_become 17 = .ok (.iconst 0, 1) := by decide +kernel
theorem dX5_become_18 : decode cX5_become 18 = .ok (.bipush 6, 2) := by decide +kernel
theorem dX5_become_20 : decode cX5_become 20 = .ok (.invokestatic 25, 3) := by decide +kernel
theorem dX5_become_23 : decode cX5_become 23 = .ok (.aload_n 1, 1) := by decide +kernel
theorem dX5_become_24 : decode cX5_become 24 = .ok (.getfield 15, 3) := by decide +kernel
theorem dX5_become_27 : decode cX5_become 27 = .ok (.iconst 0, 1) := by decide +kernel
theorem dX5_become_28 : decode cX5_become 28 = .ok (.aload_n 0, 1) := by decide +kernel
theorem dX5_become_29 : decode cX5_become 29 = .ok (.getfield 15, 3) := by decide +kernel
theorem dX5_become_32 : decode cX5_become 32 = .ok (.iconst 0, 1) := by decide +kernel
theorem dX5_become_33 : decode cX5_become 33 = .ok (.bipush 6, 2) := by decide +kernel
theorem dX5_become_35 : decode cX5_become 35 = .ok (.invokestatic 25, 3) := by decide +kernel
theorem dX5_become_38 : decode cX5_become 38 = .ok (.aload_n 1, 1) := by decide +kernel
theorem dX5_become_39 : decode cX5_become 39 = .ok (.getfield 18, 3) := by decide +kernel
theorem dX5_become_42 : decode cX5_become 42 = .ok (.iconst 0, 1) := by decide +kernel
theorem dX5_become_43 : decode cX5_become 43 = .ok (.aload_n 0, 1) := by decide +kernel
theorem dX5_become_44 : decode cX5_become 44 = .ok (.getfield 18, 3) := by decide +kernel
theorem dX5_become_47 : decode cX5_become 47 = .ok (.iconst 0, 1) := by decide +kernel
theorem dX5_become_48 : decode cX5_become 48 = .ok (.bipush 6, 2) := by decide +kernel
theorem dX5_become_50 : decode cX5_become 50 = .ok (.invokestatic 25, 3) := by decide +kernel
theorem dX5_become_53 : decode cX5_become 53 = .ok (.return_, 1) := by decide +kernel
set_option maxRecDepth 20000 in
theorem ggX5_fits_X5_lastDay : GoodIn wsX5_fits wsX5_lastDay := goodIn_r _ [6, 7, 8, 9, 10, 11, 12, 73, 74, 75, 76] (by decide +kernel) (by decide +kernel)
set_option maxRecDepth 20000 in
theorem gX5_fits_X5_lastDay : GoodIn wsX5_fits (wsV RX5 31 RX5 yX5_lastDay wsX5_lastDay) := goodIn_app (goodIn_of _ (by decide +kernel)) ggX5_fits_X5_lastDay
set_option maxRecDepth 20000 in
theorem ggX5_fits_X5_fitsOn : GoodIn wsX5_fits wsX5_fitsOn := goodIn_r _ [16, 7, 8, 17, 18, 19, 20, 21, 22, 23, 24, 25, 26, 27, 28, 29, 73, 74, 75, 76, 66, 67, 68, 69, 70, 71, 72] (by decide +kernel) (by decide +kernel)
set_option maxRecDepth 20000 in
theorem gX5_fits_X5_fitsOn : GoodIn wsX5_fits (wsV RX5 35 RX5 yX5_fitsOn wsX5_fitsOn) := goodIn_app (goodIn_of _ (by decide +kernel)) ggX5_fits_X5_fitsOn
set_option maxRecDepth 20000 in
theorem ggX5_fits_X1_runDay : GoodIn wsX5_fits wsX1_runDay := goodIn_r _ [33, 28, 34, 35, 10, 11, 12, 36, 37, 38, 39, 22, 40, 41, 42, 43, 44, 45, 46, 47, 48, 49, 50, 51, 52, 53, 24, 25, 26, 27, 29, 54, 55, 56, 57, 58, 59, 60, 61, 62, 63, 64, 65, 66, 67, 68, 69, 70, 71, 72] (by decide +kernel) (by decide +kernel)
set_option maxRecDepth 20000 in
theorem gX5_fits_X1_runDay : GoodIn wsX5_fits (wsV RX5 44 RX1 yX1_runDay wsX1_runDay) := goodIn_app (goodIn_of _ (by decide +kernel)) ggX5_fits_X1_runDay
theorem dX5_fits_0 : decode cX5_fits 0 = .ok (.aload_n 0, 1) := by decide +kernel
theorem dX5_fits_1 : decode cX5_fits 1 = .ok (.invokevirtual 31, 3) := by decide +kernel
theorem dX5_fits_4 : decode cX5_fits 4 = .ok (.istore_n 2, 1) := by decide +kernel
theorem dX5_fits_5 : decode cX5_fits 5 = .ok (.iconst 0, 1) := by decide +kernel
theorem dX5_fits_6 : decode cX5_fits 6 = .ok (.istore_n 3, 1) := by decide +kernel
theorem dX5_fits_7 : decode cX5_fits 7 = .ok (.iload_n 3, 1) := by decide +kernel
theorem dX5_fits_8 : decode cX5_fits 8 = .ok (.iload_n 2, 1) := by decide +kernel
theorem dX5_fits_9 : decode cX5_fits 9 = .ok (.if_icmp .gt 29, 3) := by decide +kernel
theorem dX5_fits_12 : decode cX5_fits 12 = .ok (.aload_n 0, 1) := by decide +kernel
theorem dX5_fits_13 : decode cX5_fits 13 = .ok (.iload_n 3, 1) := by decide +kernel
theorem dX5_fits_14 : decode cX5_fits 14 = .ok (.aload_n 1, 1) := by decide +kernel
theorem dX5_fits_15 : decode cX5_fits 15 = .ok (.invokevirtual 35, 3) := by decide +kernel
theorem dX5_fits_18 : decode cX5_fits 18 = .ok (.ifCond .ne 5, 3) := by decide +kernel
theorem dX5_fits_21 : decode cX5_fits 21 = .ok (.iconst 0, 1) := by decide +kernel
theorem dX5_fits_22 : decode cX5_fits 22 = .ok (.ireturn, 1) := by decide +kernel
theorem dX5_fits_23 : decode cX5_fits 23 = .ok (.aload_n 1, 1) := by decide +kernel
theorem dX5_fits_24 : decode cX5_fits 24 = .ok (.aload_n 1, 1) := by decide +kernel
theorem dX5_fits_25 : decode cX5_fits 25 = .ok (.getfield 39, 3) := by decide +kernel
theorem dX5_fits_28 : decode cX5_fits 28 = .ok (.invokevirtual 44, 3) := by decide +kernel
theorem dX5_fits_31 : decode cX5_fits 31 = .ok (.pop, 1) := by decide +kernel
theorem dX5_fits_32 : decode cX5_fits 32 = .ok (.iinc 3 1, 3) := by decide +kernel
theorem dX5_fits_35 : decode cX5_fits 35 = .ok (.goto (-28), 3) := by decide +kernel
theorem dX5_fits_38 : decode cX5_fits 38 = .ok (.iconst 1, 1) := by decide +kernel
theorem dX5_fits_39 : decode cX5_fits 39 = .ok (.ireturn, 1) := by decide +kernel
theorem dX5_lastDay_0 : decode cX5_lastDay 0 = .ok (.iconst (-1), 1) := by decide +kernel
theorem dX5_lastDay_1 : decode cX5_lastDay 1 = .ok (.istore_n 1, 1) := by decide +kernel
theorem dX5_lastDay_2 : decode cX5_lastDay 2 = .ok (.iconst 0, 1) := by decide +kernel
theorem dX5_lastDay_3 : decode cX5_lastDay 3 = .ok (.istore_n 2, 1) := by decide +kernel
theorem dX5_lastDay_4 : decode cX5_lastDay 4 = .ok (.iload_n 2, 1) := by decide +kernel
theorem dX5_lastDay_5 : decode cX5_lastDay 5 = .ok (.aload_n 0, 1) := by decide +kernel
theorem dX5_lastDay_6 : decode cX5_lastDay 6 = .ok (.getfield 21, 3) := by decide +kernel
theorem dX5_lastDay_9 : decode cX5_lastDay 9 = .ok (.if_icmp .ge 20, 3) := by decide +kernel
theorem dX5_lastDay_12 : decode cX5_lastDay 12 = .ok (.iload_n 1, 1) := by decide +kernel
theorem dX5_lastDay_13 : decode cX5_lastDay 13 = .ok (.aload_n 0, 1) := by decide +kernel
theorem dX5_lastDay_14 : decode cX5_lastDay 14 = .ok (.getfield 9, 3) := by decide +kernel
theorem dX5_lastDay_17 : decode cX5_lastDay 17 = .ok (.iload_n 2, 1) := by decide +kernel
theorem dX5_lastDay_18 : decode cX5_lastDay 18 = .ok (.iaload, 1) := by decide +kernel
theorem dX5_lastDay_19 : decode cX5_lastDay 19 = .ok (.invokestatic 48, 3) := by decide +kernel
theorem dX5_lastDay_22 : decode cX5_lastDay 22 = .ok (.istore_n 1, 1) := by decide +kernel
theorem dX5_lastDay_23 : decode cX5_lastDay 23 = .ok (.iinc 2 1, 3) := by decide +kernel
theorem dX5_lastDay_26 : decode cX5_lastDay 26 = .ok (.goto (-22), 3) := by decide +kernel
theorem dX5_lastDay_29 : decode cX5_lastDay 29 = .ok (.iload_n 1, 1) := by decide +kernel
theorem dX5_lastDay_30 : decode cX5_lastDay 30 = .ok (.ireturn, 1) := by decide +kernel
set_option maxRecDepth 20000 in
theorem ggX5_fitsOn_X1_isRiding : GoodIn wsX5_fitsOn wsX1_isRiding := goodIn_r _ [9, 10, 11, 12, 8, 13, 14, 15, 20, 21, 22, 23, 24, 25, 26] (by decide +kernel) (by decide +kernel)
set_option maxRecDepth 20000 in
theorem gX5_fitsOn_X1_isRiding : GoodIn wsX5_fitsOn (wsV RX5 54 RX1 yX1_isRiding wsX1_isRiding) := goodIn_app (goodIn_of _ (by decide +kernel)) ggX5_fitsOn_X1_isRiding
theorem dX5_fitsOn_0 : decode cX5_fitsOn 0 = .ok (.iconst 0, 1) := by decide +kernel
theorem dX5_fitsOn_1 : decode cX5_fitsOn 1 = .ok (.istore_n 3, 1) := by decide +kernel
theorem dX5_fitsOn_2 : decode cX5_fitsOn 2 = .ok (.iload_n 3, 1) := by decide +kernel
theorem dX5_fitsOn_3 : decode cX5_fitsOn 3 = .ok (.aload_n 0, 1) := by decide +kernel
theorem dX5_fitsOn_4 : decode cX5_fitsOn 4 = .ok (.getfield 21, 3) := by decide +kernel
theorem dX5_fitsOn_7 : decode cX5_fitsOn 7 = .ok (.if_icmp .ge 49, 3) := by decide +kernel
theorem dX5_fitsOn_10 : decode cX5_fitsOn 10 = .ok (.aload_n 0, 1) := by decide +kernel
theorem dX5_fitsOn_11 : decode cX5_fitsOn 11 = .ok (.getfield 9, 3) := by decide +kernel
theorem dX5_fitsOn_14 : decode cX5_fitsOn 14 = .ok (.iload_n 3, 1) := by decide +kernel
theorem dX5_fitsOn_15 : decode cX5_fitsOn 15 = .ok (.iaload, 1) := by decide +kernel
theorem dX5_fitsOn_16 : decode cX5_fitsOn 16 = .ok (.iload_n 1, 1) := by decide +kernel
theorem dX5_fitsOn_17 : decode cX5_fitsOn 17 = .ok (.if_icmp .ne 33, 3) := by decide +kernel
theorem dX5_fitsOn_20 : decode cX5_fitsOn 20 = .ok (.aload_n 2, 1) := by decide +kernel
theorem dX5_fitsOn_21 : decode cX5_fitsOn 21 = .ok (.aload_n 0, 1) := by decide +kernel
theorem dX5_fitsOn_22 : decode cX5_fitsOn 22 = .ok (.getfield 15, 3) := by decide +kernel
theorem dX5_fitsOn_25 : decode cX5_fitsOn 25 = .ok (.iload_n 3, 1) := by decide +kernel
theorem dX5_fitsOn_26 : decode cX5_fitsOn 26 = .ok (.iaload, 1) := by decide +kernel
theorem dX5_fitsOn_27 : decode cX5_fitsOn 27 = .ok (.invokevirtual 54, 3) := by decide +kernel
theorem dX5_fitsOn_30 : decode cX5_fitsOn 30 = .ok (.aload_n 0, 1) := by decide +kernel
theorem dX5_fitsOn_31 : decode cX5_fitsOn 31 = .ok (.getfield 18, 3) := by decide +kernel
theorem dX5_fitsOn_34 : decode cX5_fitsOn 34 = .ok (.iload_n 3, 1) := by decide +kernel
theorem dX5_fitsOn_35 : decode cX5_fitsOn 35 = .ok (.iaload, 1) := by decide +kernel
theorem dX5_fitsOn_36 : decode cX5_fitsOn 36 = .ok (.iconst 1, 1) := by decide +kernel
theorem dX5_fitsOn_37 : decode cX5_fitsOn 37 = .ok (.if_icmp .ne 7, 3) := by decide +kernel
theorem dX5_fitsOn_40 : decode cX5_fitsOn 40 = .ok (.iconst 1, 1) := by decide +kernel
theorem dX5_fitsOn_41 : decode cX5_fitsOn 41 = .ok (.goto 4, 3) := by decide +kernel
theorem dX5_fitsOn_44 : decode cX5_fitsOn 44 = .ok (.iconst 0, 1) := by decide +kernel
theorem dX5_fitsOn_45 : decode cX5_fitsOn 45 = .ok (.if_icmp .eq 5, 3) := by decide +kernel
theorem dX5_fitsOn_48 : decode cX5_fitsOn 48 = .ok (.iconst 0, 1) := by decide +kernel
theorem dX5_fitsOn_49 : decode cX5_fitsOn 49 = .ok (.ireturn, 1) := by decide +kernel
theorem dX5_fitsOn_50 : decode cX5_fitsOn 50 = .ok (.iinc 3 1, 3) := by decide +kernel
theorem dX5_fitsOn_53 : decode cX5_fitsOn 53 = .ok (.goto (-51), 3) := by decide +kernel
theorem dX5_fitsOn_56 : decode cX5_fitsOn 56 = .ok (.iconst 1, 1) := by decide +kernel
theorem dX5_fitsOn_57 : decode cX5_fitsOn 57 = .ok (.ireturn, 1) := by decide +kernel
theorem dX6_init_0 : decode cX6_init 0 = .ok (.aload_n 0, 1) := by decide +kernel
theorem dX6_init_1 : decode cX6_init 1 = .ok (.invokespecial 3, 3) := by decide +kernel
theorem dX6_init_4 : decode cX6_init 4 = .ok (.aload_n 0, 1) := by decide +kernel
theorem dX6_init_5 : decode cX6_init 5 = .ok (.bipush 40, 2) := by decide +kernel
theorem dX6_init_7 : decode cX6_init 7 = .ok (.newarray .int, 2) := by decide +kernel
theorem dX6_init_9 : decode cX6_init 9 = .ok (.putfield 9, 3) := by decide +kernel
theorem dX6_init_12 : decode cX6_init 12 = .ok (.return_, 1) := by decide +kernel
set_option maxRecDepth 20000 in
theorem ggX6_renew_J7_fill_53178 : GoodIn wsX6_renew wsJ7_fill_53178 := goodIn_r _ [8] (by decide +kernel) (by decide +kernel)
set_option maxRecDepth 20000 in
theorem gX6_renew_J7_fill_53178 : GoodIn wsX6_renew (va_wsS RX6 26 yJ7_fill_53178 wsJ7_fill_53178) := goodIn_app (goodIn_of _ (by decide +kernel)) ggX6_renew_J7_fill_53178
theorem dX6_renew_0 : decode cX6_renew 0 = .ok (.aload_n 0, 1) := by decide +kernel
theorem dX6_renew_1 : decode cX6_renew 1 = .ok (.iconst 1, 1) := by decide +kernel
theorem dX6_renew_2 : decode cX6_renew 2 = .ok (.putfield 15, 3) := by decide +kernel
theorem dX6_renew_5 : decode cX6_renew 5 = .ok (.aload_n 0, 1) := by decide +kernel
theorem dX6_renew_6 : decode cX6_renew 6 = .ok (.iload_n 1, 1) := by decide +kernel
theorem dX6_renew_7 : decode cX6_renew 7 = .ok (.putfield 19, 3) := by decide +kernel
theorem dX6_renew_10 : decode cX6_renew 10 = .ok (.aload_n 0, 1) := by decide +kernel
theorem dX6_renew_11 : decode cX6_renew 11 = .ok (.iload_n 2, 1) := by decide +kernel
theorem dX6_renew_12 : decode cX6_renew 12 = .ok (.putfield 23, 3) := by decide +kernel
theorem dX6_renew_15 : decode cX6_renew 15 = .ok (.aload_n 0, 1) := by decide +kernel
theorem dX6_renew_16 : decode cX6_renew 16 = .ok (.getfield 9, 3) := by decide +kernel
theorem dX6_renew_19 : decode cX6_renew 19 = .ok (.iconst 0, 1) := by decide +kernel
theorem dX6_renew_20 : decode cX6_renew 20 = .ok (.invokestatic 26, 3) := by decide +kernel
theorem dX6_renew_23 : decode cX6_renew 23 = .ok (.return_, 1) := by decide +kernel
theorem dX6_faultOfLaying_0 : decode cX6_faultOfLaying 0 = .ok (.aload_n 0, 1) := by decide +kernel
theorem dX6_faultOfLaying_1 : decode cX6_faultOfLaying 1 = .ok (.getfield 15, 3) := by decide +kernel
theorem dX6_faultOfLaying_4 : decode cX6_faultOfLaying 4 = .ok (.ifCond .ne 5, 3) := by decide +kernel
theorem dX6_faultOfLaying_7 : decode cX6_faultOfLaying 7 = .ok (.iconst 1, 1) := by decide +kernel
theorem dX6_faultOfLaying_8 : decode cX6_faultOfLaying 8 = .ok (.ireturn, 1) := by decide +kernel
theorem dX6_faultOfLaying_9 : decode cX6_faultOfLaying 9 = .ok (.iload_n 1, 1) := by decide +kernel
theorem dX6_faultOfLaying_10 : decode cX6_faultOfLaying 10 = .ok (.ifCond .lt 15, 3) := by decide +kernel
theorem dX6_faultOfLaying_13 : decode cX6_faultOfLaying 13 = .ok (.iload_n 1, 1) := by decide +kernel
theorem dX6_faultOfLaying_14 : decode cX6_faultOfLaying 14 = .ok (.aload_n 0, 1) := by decide +kernel
theorem dX6_faultOfLaying_15 : decode cX6_faultOfLaying 15 = .ok (.getfield 23, 3) := by decide +kernel
theorem dX6_faultOfLaying_18 : decode cX6_faultOfLaying 18 = .ok (.if_icmp .ge 7, 3) := by decide +kernel
theorem dX6_faultOfLaying_21 : decode cX6_faultOfLaying 21 = .ok (.iconst 0, 1) := by decide +kernel
theorem dX6_faultOfLaying_22 : decode cX6_faultOfLaying 22 = .ok (.goto 4, 3) := by decide +kernel
theorem dX6_faultOfLaying_25 : decode cX6_faultOfLaying 25 = .ok (.iconst 2, 1) := by decide +kernel
theorem dX6_faultOfLaying_26 : decode cX6_faultOfLaying 26 = .ok (.ireturn, 1) := by decide +kernel
theorem dX6_faultOfReading_0 : decode cX6_faultOfReading 0 = .ok (.aload_n 0, 1) := by decide +kernel
theorem dX6_faultOfReading_1 : decode cX6_faultOfReading 1 = .ok (.getfield 15, 3) := by decide +kernel
theorem dX6_faultOfReading_4 : decode cX6_faultOfReading 4 = .ok (.ifCond .ne 5, 3) := by decide +kernel
theorem dX6_faultOfReading_7 : decode cX6_faultOfReading 7 = .ok (.iconst 1, 1) := by decide +kernel
theorem dX6_faultOfReading_8 : decode cX6_faultOfReading 8 = .ok (.ireturn, 1) := by decide +kernel
theorem dX6_faultOfReading_9 : decode cX6_faultOfReading 9 = .ok (.iload_n 1, 1) := by decide +kernel
theorem dX6_faultOfReading_10 : decode cX6_faultOfReading 10 = .ok (.aload_n 0, 1) := by decide +kernel
theorem dX6_faultOfReading_11 : decode cX6_faultOfReading 11 = .ok (.getfield 19, 3) := by decide +kernel
theorem dX6_faultOfReading_14 : decode cX6_faultOfReading 14 = .ok (.if_icmp .eq 5, 3) := by decide +kernel
theorem dX6_faultOfReading_17 : decode cX6_faultOfReading 17 = .ok (.iconst 3, 1) := by decide +kernel
theorem dX6_faultOfReading_18 : decode cX6_faultOfReading 18 = .ok (.ireturn, 1) := by decide +kernel
theorem dX6_faultOfReading_19 : decode cX6_faultOfReading 19 = .ok (.iload_n 2, 1) := by decide +kernel
theorem dX6_faultOfReading_20 : decode cX6_faultOfReading 20 = .ok (.ifCond .lt 17, 3) := by decide +kernel
theorem dX6_faultOfReading_23 : decode cX6_faultOfReading 23 = .ok (.iload_n 2, 1) := by decide +kernel
theorem dX6_faultOfReading_24 : decode cX6_faultOfReading 24 = .ok (.aload_n 0, 1) := by decide +kernel
theorem dX6_faultOfReading_25 : decode cX6_faultOfReading 25 = .ok (.getfield 23, 3) := by decide +kernel
theorem dX6_faultOfReading_28 : decode cX6_faultOfReading 28 = .ok (.iconst 3, 1) := by decide +kernel
theorem dX6_faultOfReading_29 : decode cX6_faultOfReading 29 = .ok (.isub, 1) := by decide +kernel
theorem dX6_faultOfReading_30 : decode cX6_faultOfReading 30 = .ok (.if_icmp .gt 7, 3) := by decide +kernel
theorem dX6_faultOfReading_33 : decode cX6_faultOfReading 33 = .ok (.iconst 0, 1) := by decide +kernel
theorem dX6_faultOfReading_34 : decode cX6_faultOfReading 34 = .ok (.goto 4, 3) := by decide +kernel
theorem dX6_faultOfReading_37 : decode cX6_faultOfReading 37 = .ok (.iconst 2, 1) := by decide +kernel
theorem dX6_faultOfReading_38 : decode cX6_faultOfReading 38 = .ok (.ireturn, 1) := by decide +kernel
theorem dX6_put_0 : decode cX6_put 0 = .ok (.aload_n 0, 1) := by decide +kernel
theorem dX6_put_1 : decode cX6_put 1 = .ok (.getfield 19, 3) := by decide +kernel
theorem dX6_put_4 : decode cX6_put 4 = .ok (.ifCond .ne 14, 3) := by decide +kernel
theorem dX6_put_7 : decode cX6_put 7 = .ok (.aload_n 0, 1) := by decide +kernel
theorem dX6_put_8 : decode cX6_put 8 = .ok (.getfield 9, 3) := by decide +kernel
theorem dX6_put_11 : decode cX6_put 11 = .ok (.iload_n 1, 1) := by decide +kernel
theorem dX6_put_12 : decode cX6_put 12 = .ok (.iload_n 2, 1) := by decide +kernel
theorem dX6_put_13 : decode cX6_put 13 = .ok (.i2b, 1) := by decide +kernel
theorem dX6_put_14 : decode cX6_put 14 = .ok (.iastore, 1) := by decide +kernel
theorem dX6_put_15 : decode cX6_put 15 = .ok (.goto 29, 3) := by decide +kernel
theorem dX6_put_18 : decode cX6_put 18 = .ok (.aload_n 0, 1) := by decide +kernel
theorem dX6_put_19 : decode cX6_put 19 = .ok (.getfield 19, 3) := by decide +kernel
theorem dX6_put_22 : decode cX6_put 22 = .ok (.iconst 1, 1) := by decide +kernel
theorem dX6_put_23 : decode cX6_put 23 = .ok (.if_icmp .ne 14, 3) := by decide +kernel
theorem dX6_put_26 : decode cX6_put 26 = .ok (.aload_n 0, 1) := by decide +kernel
theorem dX6_put_27 : decode cX6_put 27 = .ok (.getfield 9, 3) := by decide +kernel
theorem dX6_put_30 : decode cX6_put 30 = .ok (.iload_n 1, 1) := by decide +kernel
theorem dX6_put_31 : decode cX6_put 31 = .ok (.iload_n 2, 1) := by decide +kernel
theorem dX6_put_32 : decode cX6_put 32 = .ok (.i2s, 1) := by decide +kernel
theorem dX6_put_33 : decode cX6_put 33 = .ok (.iastore, 1) := by decide +kernel
theorem dX6_put_34 : decode cX6_put 34 = .ok (.goto 10, 3) := by decide +kernel
theorem dX6_put_37 : decode cX6_put 37 = .ok (.aload_n 0, 1) := by decide +kernel
theorem dX6_put_38 : decode cX6_put 38 = .ok (.getfield 9, 3) := by decide +kernel
theorem dX6_put_41 : decode cX6_put 41 = .ok (.iload_n 1, 1) := by decide +kernel
theorem dX6_put_42 : decode cX6_put 42 = .ok (.iload_n 2, 1) := by decide +kernel
theorem dX6_put_43 : decode cX6_put 43 = .ok (.iastore, 1) := by decide +kernel
theorem dX6_put_44 : decode cX6_put 44 = .ok (.return_, 1) := by decide +kernel
set_option maxRecDepth 20000 in
theorem ggX7_init_X1_init : GoodIn wsX7_init wsX1_init := goodIn_r _ [36, 37, 2, 3, 33, 38, 39, 40, 41, 75, 76, 77, 78, 79, 80, 81] (by decide +kernel) (by decide +kernel)
set_option maxRecDepth 20000 in
theorem gX7_init_X1_init_n9 : GoodIn wsX7_init (wsX1_init) := ggX7_init_X1_init
set_option maxRecDepth 20000 in
theorem ggX7_init_X2_init : GoodIn wsX7_init wsX2_init := goodIn_r _ [44, 45, 2, 3, 46, 47, 5, 6, 35, 36, 37, 33, 38, 39, 40, 41, 93, 75, 76, 77, 78, 79, 80, 81] (by decide +kernel) (by decide +kernel)
set_option maxRecDepth 20000 in
theorem gX7_init_X2_init : GoodIn wsX7_init (wsX2_init) := ggX7_init_X2_init
set_option maxRecDepth 20000 in
theorem ggX7_init_X4_init : GoodIn wsX7_init wsX4_init := goodIn_r _ [49, 50, 2, 3, 33, 51, 94, 95] (by decide +kernel) (by decide +kernel)
set_option maxRecDepth 20000 in
theorem gX7_init_X4_init_n28 : GoodIn wsX7_init (wsX4_init) := ggX7_init_X4_init
set_option maxRecDepth 20000 in
theorem ggX7_init_X5_init : GoodIn wsX7_init wsX5_init := goodIn_r _ [53, 54, 2, 3, 33, 55, 56, 57, 96, 97, 98, 99] (by decide +kernel) (by decide +kernel)
set_option maxRecDepth 20000 in
theorem gX7_init_X5_init_n35 : GoodIn wsX7_init (wsX5_init) := ggX7_init_X5_init
set_option maxRecDepth 20000 in
theorem ggX7_init_X0_init : GoodIn wsX7_init wsX0_init := goodIn_r _ [59, 60, 2, 3, 61, 5, 6, 62, 63, 18, 19, 64, 35, 36, 37, 33, 38, 39, 40, 41, 52, 53, 54, 55, 56, 57, 75, 76, 77, 78, 79, 80, 81, 100, 101, 102, 96, 97, 98, 99] (by decide +kernel) (by decide +kernel)
set_option maxRecDepth 20000 in
theorem gX7_init_X0_init_n46 : GoodIn wsX7_init (wsX0_init) := ggX7_init_X0_init
set_option maxRecDepth 20000 in
theorem ggX7_init_X6_init : GoodIn wsX7_init wsX6_init := goodIn_r _ [66, 67, 2, 3, 33, 68, 103, 104, 105, 106] (by decide +kernel) (by decide +kernel)
set_option maxRecDepth 20000 in
theorem gX7_init_X6_init_n53 : GoodIn wsX7_init (wsX6_init) := ggX7_init_X6_init
set_option maxRecDepth 20000 in
theorem ggX7_init_X3_init : GoodIn wsX7_init wsX3_init := goodIn_r _ [70, 71, 2, 3, 33, 72, 73, 5, 6, 74, 35, 36, 37, 38, 39, 40, 41, 107, 108, 109, 110, 111, 112, 113, 114, 115, 116, 117, 118, 75, 76, 77, 78, 79, 80, 81] (by decide +kernel) (by decide +kernel)
set_option maxRecDepth 20000 in
theorem gX7_init_X3_init_n56 : GoodIn wsX7_init (wsX3_init) := ggX7_init_X3_init
theorem dX7_init_0 : decode cX7_init 0 = .ok (.aload_n 0, 1) := by decide +kernel
theorem dX7_init_1 : decode cX7_init 1 = .ok (.invokespecial 1, 3) := by decide +kernel
theorem dX7_init_4 : decode cX7_init 4 = .ok (.aload_n 0, 1) := by decide +kernel
theorem dX7_init_5 : decode cX7_init 5 = .ok (.new 7, 3) := by decide +kernel
theorem dX7_init_8 : decode cX7_init 8 = .ok (.dup, 1) := by decide +kernel
theorem dX7_init_9 : decode cX7_init 9 = .ok (.invokespecial 9, 3) := by decide +kernel
theorem dX7_init_12 : decode cX7_init 12 = .ok (.putfield 10, 3) := by decide +kernel
theorem dX7_init_15 : decode cX7_init 15 = .ok (.aload_n 0, 1) := by decide +kernel
theorem dX7_init_16 : decode cX7_init 16 = .ok (.new 7, 3) := by decide +kernel
theorem dX7_init_19 : decode cX7_init 19 = .ok (.dup, 1) := by decide +kernel
theorem dX7_init_20 : decode cX7_init 20 = .ok (.invokespecial 9, 3) := by decide +kernel
theorem dX7_init_23 : decode cX7_init 23 = .ok (.putfield 16, 3) := by decide +kernel
theorem dX7_init_26 : decode cX7_init 26 = .ok (.aload_n 0, 1) := by decide +kernel
theorem dX7_init_27 : decode cX7_init 27 = .ok (.new 19, 3) := by decide +kernel
theorem dX7_init_30 : decode cX7_init 30 = .ok (.dup, 1) := by decide +kernel
theorem dX7_init_31 : decode cX7_init 31 = .ok (.invokespecial 21, 3) := by decide +kernel
theorem dX7_init_34 : decode cX7_init 34 = .ok (.putfield 22, 3) := by decide +kernel
theorem dX7_init_37 : decode cX7_init 37 = .ok (.aload_n 0, 1) := by decide +kernel
theorem dX7_init_38 : decode cX7_init 38 = .ok (.new 26, 3) := by decide +kernel
theorem dX7_init_41 : decode cX7_init 41 = .ok (.dup, 1) := by decide +kernel
theorem dX7_init_42 : decode cX7_init 42 = .ok (.invokespecial 28, 3) := by decide +kernel
theorem dX7_init_45 : decode cX7_init 45 = .ok (.putfield 29, 3) := by decide +kernel
theorem dX7_init_48 : decode cX7_init 48 = .ok (.aload_n 0, 1) := by decide +kernel
theorem dX7_init_49 : decode cX7_init 49 = .ok (.new 33, 3) := by decide +kernel
theorem dX7_init_52 : decode cX7_init 52 = .ok (.dup, 1) := by decide +kernel
theorem dX7_init_53 : decode cX7_init 53 = .ok (.invokespecial 35, 3) := by decide +kernel
theorem dX7_init_56 : decode cX7_init 56 = .ok (.putfield 36, 3) := by decide +kernel
theorem dX7_init_59 : decode cX7_init 59 = .ok (.aload_n 0, 1) := by decide +kernel
theorem dX7_init_60 : decode cX7_init 60 = .ok (.iconst 2, 1) := by decide +kernel
theorem dX7_init_61 : decode cX7_init 61 = .ok (.anewarray 40, 3) := by decide +kernel
theorem dX7_init_64 : decode cX7_init 64 = .ok (.putfield 42, 3) := by decide +kernel
theorem dX7_init_67 : decode cX7_init 67 = .ok (.iconst 0, 1) := by decide +kernel
theorem dX7_init_68 : decode cX7_init 68 = .ok (.istore_n 1, 1) := by decide +kernel
theorem dX7_init_69 : decode cX7_init 69 = .ok (.iload_n 1, 1) := by decide +kernel
theorem dX7_init_70 : decode cX7_init 70 = .ok (.iconst 2, 1) := by decide +kernel
theorem dX7_init_71 : decode cX7_init 71 = .ok (.if_icmp .ge 22, 3) := by decide +kernel
theorem dX7_init_74 : decode cX7_init 74 = .ok (.aload_n 0, 1) := by decide +kernel
theorem dX7_init_75 : decode cX7_init 75 = .ok (.getfield 42, 3) := by decide +kernel
theorem dX7_init_78 : decode cX7_init 78 = .ok (.iload_n 1, 1) := by decide +kernel
theorem dX7_init_79 : decode cX7_init 79 = .ok (.new 40, 3) := by decide +kernel
theorem dX7_init_82 : decode cX7_init 82 = .ok (.dup, 1) := by decide +kernel
theorem dX7_init_83 : decode cX7_init 83 = .ok (.invokespecial 46, 3) := by decide +kernel
theorem dX7_init_86 : decode cX7_init 86 = .ok (.aastore, 1) := by decide +kernel
theorem dX7_init_87 : decode cX7_init 87 = .ok (.iinc 1 1, 3) := by decide +kernel
theorem dX7_init_90 : decode cX7_init 90 = .ok (.goto (-21), 3) := by decide +kernel
theorem dX7_init_93 : decode cX7_init 93 = .ok (.aload_n 0, 1) := by decide +kernel
theorem dX7_init_94 : decode cX7_init 94 = .ok (.iconst 4, 1) := by decide +kernel
theorem dX7_init_95 : decode cX7_init 95 = .ok (.anewarray 47, 3) := by decide +kernel
theorem dX7_init_98 : decode cX7_init 98 = .ok (.putfield 49, 3) := by decide +kernel
theorem dX7_init_101 : decode cX7_init 101 = .ok (.iconst 0, 1) := by decide +kernel
theorem dX7_init_102 : decode cX7_init 102 = .ok (.istore_n 1, 1) := by decide +kernel
theorem dX7_init_103 : decode cX7_init 103 = .ok (.iload_n 1, 1) := by decide +kernel
theorem dX7_init_104 : decode cX7_init 104 = .ok (.iconst 4, 1) := by decide +kernel
theorem dX7_init_105 : decode cX7_init 105 = .ok (.if_icmp .ge 22, 3) := by decide +kernel
theorem dX7_init_108 : decode cX7_init 108 = .ok (.aload_n 0, 1) := by decide +kernel
theorem dX7_init_109 : decode cX7_init 109 = .ok (.getfield 49, 3) := by decide +kernel
theorem dX7_init_112 : decode cX7_init 112 = .ok (.iload_n 1, 1) := by decide +kernel
theorem dX7_init_113 : decode cX7_init 113 = .ok (.new 47, 3) := by decide +kernel
theorem dX7_init_116 : decode cX7_init 116 = .ok (.dup, 1) := by decide +kernel
theorem dX7_init_117 : decode cX7_init 117 = .ok (.invokespecial 53, 3) := by decide +kernel
theorem dX7_init_120 : decode cX7_init 120 = .ok (.aastore, 1) := by decide +kernel
theorem dX7_init_121 : decode cX7_init 121 = .ok (.iinc 1 1, 3) := by decide +kernel
theorem dX7_init_124 : decode cX7_init 124 = .ok (.goto (-21), 3) := by decide +kernel
theorem dX7_init_127 : decode cX7_init 127 = .ok (.aload_n 0, 1) := by decide +kernel
theorem dX7_init_128 : decode cX7_init 128 = .ok (.new 54, 3) := by decide +kernel
theorem dX7_init_131 : decode cX7_init 131 = .ok (.dup, 1) := by decide +kernel
theorem dX7_init_132 : decode cX7_init 132 = .ok (.invokespecial 56, 3) := by decide +kernel
theorem dX7_init_135 : decode cX7_init 135 = .ok (.putfield 57, 3) := by decide +kernel
theorem dX7_init_138 : decode cX7_init 138 = .ok (.aload_n 0, 1) := by decide +kernel
theorem dX7_init_139 : decode cX7_init 139 = .ok (.bipush 31, 2) := by decide +kernel
theorem dX7_init_141 : decode cX7_init 141 = .ok (.newarray .int, 2) := by decide +kernel
theorem dX7_init_143 : decode cX7_init 143 = .ok (.putfield 61, 3) := by decide +kernel
theorem dX7_init_146 : decode cX7_init 146 = .ok (.return_, 1) := by decide +kernel
set_option maxRecDepth 20000 in
theorem ggX7_feed_X7_within : GoodIn wsX7_feed wsX7_within := goodIn_r _ [7] (by decide +kernel) (by decide +kernel)
set_option maxRecDepth 20000 in
theorem gX7_feed_X7_within : GoodIn wsX7_feed (va_wsS RX7 65 yX7_within wsX7_within) := goodIn_app (goodIn_of _ (by decide +kernel)) ggX7_feed_X7_within
theorem dX7_feed_0 : decode cX7_feed 0 = .ok (.iload_n 1, 1) := by decide +kernel
theorem dX7_feed_1 : decode cX7_feed 1 = .ok (.iconst 0, 1) := by decide +kernel
theorem dX7_feed_2 : decode cX7_feed 2 = .ok (.bipush 127, 2) := by decide +kernel
theorem dX7_feed_4 : decode cX7_feed 4 = .ok (.invokestatic 65, 3) := by decide +kernel
theorem dX7_feed_7 : decode cX7_feed 7 = .ok (.ifCond .ne 5, 3) := by decide +kernel
theorem dX7_feed_10 : decode cX7_feed 10 = .ok (.iconst (-1), 1) := by decide +kernel
theorem dX7_feed_11 : decode cX7_feed 11 = .ok (.ireturn, 1) := by decide +kernel
theorem dX7_feed_12 : decode cX7_feed 12 = .ok (.aload_n 0, 1) := by decide +kernel
theorem dX7_feed_13 : decode cX7_feed 13 = .ok (.getfield 57, 3) := by decide +kernel
theorem dX7_feed_16 : decode cX7_feed 16 = .ok (.getfield 69, 3) := by decide +kernel
theorem dX7_feed_19 : decode cX7_feed 19 = .ok (.sipush 160, 3) := by decide +kernel
theorem dX7_feed_22 : decode cX7_feed 22 = .ok (.if_icmp .lt 6, 3) := by decide +kernel
theorem dX7_feed_25 : decode cX7_feed 25 = .ok (.bipush (-3), 2) := by decide +kernel
theorem dX7_feed_27 : decode cX7_feed 27 = .ok (.ireturn, 1) := by decide +kernel
theorem dX7_feed_28 : decode cX7_feed 28 = .ok (.aload_n 0, 1) := by decide +kernel
theorem dX7_feed_29 : decode cX7_feed 29 = .ok (.getfield 57, 3) := by decide +kernel
theorem dX7_feed_32 : decode cX7_feed 32 = .ok (.getfield 73, 3) := by decide +kernel
theorem dX7_feed_35 : decode cX7_feed 35 = .ok (.aload_n 0, 1) := by decide +kernel
theorem dX7_feed_36 : decode cX7_feed 36 = .ok (.getfield 57, 3) := by decide +kernel
theorem dX7_feed_39 : decode cX7_feed 39 = .ok (.getfield 69, 3) := by decide +kernel
theorem dX7_feed_42 : decode cX7_feed 42 = .ok (.iload_n 1, 1) := by decide +kernel
theorem dX7_feed_43 : decode cX7_feed 43 = .ok (.iastore, 1) := by decide +kernel
theorem dX7_feed_44 : decode cX7_feed 44 = .ok (.aload_n 0, 1) := by decide +kernel
theorem dX7_feed_45 : decode cX7_feed 45 = .ok (.getfield 57, 3) := by decide +kernel
theorem dX7_feed_48 : decode cX7_feed 48 = .ok (.dup, 1) := by decide +kernel
theorem dX7_feed_49 : decode cX7_feed 49 = .ok (.getfield 69, 3) := by decide +kernel
theorem dX7_feed_52 : decode cX7_feed 52 = .ok (.iconst 1, 1) := by decide +kernel
theorem dX7_feed_53 : decode cX7_feed 53 = .ok (.iadd, 1) := by decide +kernel
theorem dX7_feed_54 : decode cX7_feed 54 = .ok (.putfield 69, 3) := by decide +kernel
theorem dX7_feed_57 : decode cX7_feed 57 = .ok (.aload_n 0, 1) := by decide +kernel
theorem dX7_feed_58 : decode cX7_feed 58 = .ok (.getfield 57, 3) := by decide +kernel
theorem dX7_feed_61 : decode cX7_feed 61 = .ok (.getfield 69, 3) := by decide +kernel
theorem dX7_feed_64 : decode cX7_feed 64 = .ok (.ireturn, 1) := by decide +kernel
set_option maxRecDepth 20000 in
theorem ggX7_end_X7_within : GoodIn wsX7_end wsX7_within := goodIn_r _ [6] (by decide +kernel) (by decide +kernel)
set_option maxRecDepth 20000 in
theorem gX7_end_X7_within : GoodIn wsX7_end (va_wsS RX7 65 yX7_within wsX7_within) := goodIn_app (goodIn_of _ (by decide +kernel)) ggX7_end_X7_within
theorem dX7_end_0 : decode cX7_end 0 = .ok (.iload_n 1, 1) := by decide +kernel
theorem dX7_end_1 : decode cX7_end 1 = .ok (.iconst 0, 1) := by decide +kernel
theorem dX7_end_2 : decode cX7_end 2 = .ok (.aload_n 0, 1) := by decide +kernel
theorem dX7_end_3 : decode cX7_end 3 = .ok (.getfield 57, 3) := by decide +kernel
theorem dX7_end_6 : decode cX7_end 6 = .ok (.getfield 69, 3) := by decide +kernel
theorem dX7_end_9 : decode cX7_end 9 = .ok (.invokestatic 65, 3) := by decide +kernel
theorem dX7_end_12 : decode cX7_end 12 = .ok (.ifCond .ne 5, 3) := by decide +kernel
theorem dX7_end_15 : decode cX7_end 15 = .ok (.iconst (-1), 1) := by decide +kernel
theorem dX7_end_16 : decode cX7_end 16 = .ok (.ireturn, 1) := by decide +kernel
theorem dX7_end_17 : decode cX7_end 17 = .ok (.aload_n 0, 1) := by decide +kernel
theorem dX7_end_18 : decode cX7_end 18 = .ok (.getfield 57, 3) := by decide +kernel
theorem dX7_end_21 : decode cX7_end 21 = .ok (.getfield 69, 3) := by decide +kernel
theorem dX7_end_24 : decode cX7_end 24 = .ok (.istore_n 2, 1) := by decide +kernel
theorem dX7_end_25 : decode cX7_end 25 = .ok (.aload_n 0, 1) := by decide +kernel
theorem dX7_end_26 : decode cX7_end 26 = .ok (.getfield 57, 3) := by decide +kernel
theorem dX7_end_29 : decode cX7_end 29 = .ok (.iload_n 1, 1) := by decide +kernel
theorem dX7_end_30 : decode cX7_end 30 = .ok (.putfield 69, 3) := by decide +kernel
theorem dX7_end_33 : decode cX7_end 33 = .ok (.iload_n 2, 1) := by decide +kernel
theorem dX7_end_34 : decode cX7_end 34 = .ok (.ireturn, 1) := by decide +kernel
set_option maxRecDepth 20000 in
theorem ggX7_text_X3_takeAll : GoodIn wsX7_text wsX3_takeAll := goodIn_r _ [17, 18, 19, 20, 21, 22, 23, 24, 25, 26, 27, 28, 29, 30, 31, 32, 33, 34, 35, 36, 37, 38, 39, 40, 41, 42, 16, 43, 44, 45, 46, 47, 48, 49, 50, 51, 52, 53, 54, 55, 56, 57, 58, 59, 60, 61, 62, 63, 64, 65, 66, 67, 68, 69, 70, 71, 72, 73, 74, 75, 76, 77, 78, 79, 80, 81, 82, 83, 84, 85, 86, 87, 88, 89, 90, 91, 92, 93, 94, 95, 96, 97, 98, 99, 100, 101, 102, 103, 104, 105, 106, 107, 108, 109, 110, 111, 112, 113, 114, 115, 116, 117, 118, 119, 120, 121, 122, 123, 124, 125, 126, 127, 128, 129, 130, 131, 132, 133, 134, 135, 136, 137, 138, 139, 140, 141, 142, 143, 144, 145, 146, 147, 148, 149, 150, 151, 152, 153, 154, 155, 156, 157, 158, 159, 182, 183, 184, 185, 186, 187, 188, 189, 190, 191, 192, 193, 201, 202, 203, 204, 205, 206, 207] (by decide +kernel) (by decide +kernel)
set_option maxRecDepth 20000 in
theorem gX7_text_X3_takeAll : GoodIn wsX7_text (wsV RX7 76 RX3 yX3_takeAll wsX3_takeAll) := goodIn_app (goodIn_of _ (by decide +kernel)) ggX7_text_X3_takeAll
set_option maxRecDepth 20000 in
theorem ggX7_text_X1_become : GoodIn wsX7_text wsX1_become := goodIn_r _ [163, 32, 33, 34, 164, 165, 166, 167, 168, 169, 170, 35, 201, 202, 203, 204, 205, 206, 207] (by decide +kernel) (by decide +kernel)
set_option maxRecDepth 20000 in
theorem gX7_text_X1_become : GoodIn wsX7_text (wsV RX7 92 RX1 yX1_become wsX1_become) := goodIn_app (goodIn_of _ (by decide +kernel)) ggX7_text_X1_become
theorem dX7_text_0 : decode cX7_text 0 = .ok (.aload_n 0, 1) := by decide +kernel
theorem dX7_text_1 : decode cX7_text 1 = .ok (.getfield 57, 3) := by decide +kernel
theorem dX7_text_4 : decode cX7_text 4 = .ok (.invokevirtual 76, 3) := by decide +kernel
theorem dX7_text_7 : decode cX7_text 7 = .ok (.istore_n 1, 1) := by decide +kernel
theorem dX7_text_8 : decode cX7_text 8 = .ok (.aload_n 0, 1) := by decide +kernel
theorem dX7_text_9 : decode cX7_text 9 = .ok (.getfield 57, 3) := by decide +kernel
theorem dX7_text_12 : decode cX7_text 12 = .ok (.iconst 0, 1) := by decide +kernel
theorem dX7_text_13 : decode cX7_text 13 = .ok (.putfield 69, 3) := by decide +kernel
theorem dX7_text_16 : decode cX7_text 16 = .ok (.aload_n 0, 1) := by decide +kernel
theorem dX7_text_17 : decode cX7_text 17 = .ok (.aload_n 0, 1) := by decide +kernel
theorem dX7_text_18 : decode cX7_text 18 = .ok (.getfield 57, 3) := by decide +kernel
theorem dX7_text_21 : decode cX7_text 21 = .ok (.getfield 80, 3) := by decide +kernel
theorem dX7_text_24 : decode cX7_text 24 = .ok (.putfield 83, 3) := by decide +kernel
theorem dX7_text_27 : decode cX7_text 27 = .ok (.iload_n 1, 1) := by decide +kernel
theorem dX7_text_28 : decode cX7_text 28 = .ok (.ifCond .ne 14, 3) := by decide +kernel
theorem dX7_text_31 : decode cX7_text 31 = .ok (.bipush (-10), 2) := by decide +kernel
theorem dX7_text_33 : decode cX7_text 33 = .ok (.aload_n 0, 1) := by decide +kernel
theorem dX7_text_34 : decode cX7_text 34 = .ok (.getfield 57, 3) := by decide +kernel
theorem dX7_text_37 : decode cX7_text 37 = .ok (.getfield 86, 3) := by decide +kernel
theorem dX7_text_40 : decode cX7_text 40 = .ok (.isub, 1) := by decide +kernel
theorem dX7_text_41 : decode cX7_text 41 = .ok (.ireturn, 1) := by decide +kernel
theorem dX7_text_42 : decode cX7_text 42 = .ok (.aload_n 0, 1) := by decide +kernel
theorem dX7_text_43 : decode cX7_text 43 = .ok (.getfield 10, 3) := by decide +kernel
theorem dX7_text_46 : decode cX7_text 46 = .ok (.aload_n 0, 1) := by decide +kernel
theorem dX7_text_47 : decode cX7_text 47 = .ok (.getfield 57, 3) := by decide +kernel
theorem dX7_text_50 : decode cX7_text 50 = .ok (.getfield 89, 3) := by decide +kernel
theorem dX7_text_53 : decode cX7_text 53 = .ok (.invokevirtual 92, 3) := by decide +kernel
theorem dX7_text_56 : decode cX7_text 56 = .ok (.aload_n 0, 1) := by decide +kernel
theorem dX7_text_57 : decode cX7_text 57 = .ok (.getfield 36, 3) := by decide +kernel
theorem dX7_text_60 : decode cX7_text 60 = .ok (.iconst 0, 1) := by decide +kernel
theorem dX7_text_61 : decode cX7_text 61 = .ok (.putfield 96, 3) := by decide +kernel
theorem dX7_text_64 : decode cX7_text 64 = .ok (.iconst 0, 1) := by decide +kernel
theorem dX7_text_65 : decode cX7_text 65 = .ok (.istore_n 2, 1) := by decide +kernel
theorem dX7_text_66 : decode cX7_text 66 = .ok (.iload_n 2, 1) := by decide +kernel
theorem dX7_text_67 : decode cX7_text 67 = .ok (.iconst 2, 1) := by decide +kernel
theorem dX7_text_68 : decode cX7_text 68 = .ok (.if_icmp .ge 19, 3) := by decide +kernel
theorem dX7_text_71 : decode cX7_text 71 = .ok (.aload_n 0, 1) := by decide +kernel
theorem dX7_text_72 : decode cX7_text 72 = .ok (.getfield 42, 3) := by decide +kernel
theorem dX7_text_75 : decode cX7_text 75 = .ok (.iload_n 2, 1) := by decide +kernel
theorem dX7_text_76 : decode cX7_text 76 = .ok (.aaload, 1) := by decide +kernel
theorem dX7_text_77 : decode cX7_text 77 = .ok (.iconst 0, 1) := by decide +kernel
theorem dX7_text_78 : decode cX7_text 78 = .ok (.putfield 99, 3) := by decide +kernel
theorem dX7_text_81 : decode cX7_text 81 = .ok (.iinc 2 1, 3) := by decide +kernel
theorem dX7_text_84 : decode cX7_text 84 = .ok (.goto (-18), 3) := by decide +kernel
theorem dX7_text_87 : decode cX7_text 87 = .ok (.aload_n 0, 1) := by decide +kernel
theorem dX7_text_88 : decode cX7_text 88 = .ok (.getfield 57, 3) := by decide +kernel
theorem dX7_text_91 : decode cX7_text 91 = .ok (.getfield 103, 3) := by decide +kernel
theorem dX7_text_94 : decode cX7_text 94 = .ok (.ireturn, 1) := by decide +kernel
theorem dX7_fault_0 : decode cX7_fault 0 = .ok (.aload_n 0, 1) := by decide +kernel
theorem dX7_fault_1 : decode cX7_fault 1 = .ok (.getfield 83, 3) := by decide +kernel
theorem dX7_fault_4 : decode cX7_fault 4 = .ok (.ireturn, 1) := by decide +kernel
set_option maxRecDepth 20000 in
theorem ggX7_rule_X1_riders : GoodIn wsX7_rule wsX1_riders := goodIn_r _ [9, 10, 11, 12, 13, 8, 14, 15, 16, 17, 18, 19, 40, 41, 42, 43, 44, 45, 46] (by decide +kernel) (by decide +kernel)
set_option maxRecDepth 20000 in
theorem gX7_rule_X1_riders : GoodIn wsX7_rule (wsV RX7 115 RX1 yX1_riders wsX1_riders) := goodIn_app (goodIn_of _ (by decide +kernel)) ggX7_rule_X1_riders
