/-! Each instruction of each method, decoded. Written by wip/tools/emit_names.py. -/
theorem d_LW_place_0 : decode c_LW_place 0 = .ok (.aload_n 0, 1) := by decide +kernel
theorem d_LW_place_1 : decode c_LW_place 1 = .ok (.iload_n 1, 1) := by decide +kernel
theorem d_LW_place_2 : decode c_LW_place 2 = .ok (.iload_n 2, 1) := by decide +kernel
theorem d_LW_place_3 : decode c_LW_place 3 = .ok (.iload_n 3, 1) := by decide +kernel
theorem d_LW_place_4 : decode c_LW_place 4 = .ok (.iload 4, 2) := by decide +kernel
theorem d_LW_place_6 : decode c_LW_place 6 = .ok (.invokevirtual 7, 3) := by decide +kernel
theorem d_LW_place_9 : decode c_LW_place 9 = .ok (.goto 7, 3) := by decide +kernel
theorem d_LW_place_12 : decode c_LW_place 12 = .ok (.astore 5, 2) := by decide +kernel
theorem d_LW_place_14 : decode c_LW_place 14 = .ok (.iconst 1, 1) := by decide +kernel
theorem d_LW_place_15 : decode c_LW_place 15 = .ok (.ireturn, 1) := by decide +kernel
theorem d_LW_place_16 : decode c_LW_place 16 = .ok (.iconst 0, 1) := by decide +kernel
theorem d_LW_place_17 : decode c_LW_place 17 = .ok (.ireturn, 1) := by decide +kernel
theorem d_LW_limit_0 : decode c_LW_limit 0 = .ok (.aload_n 0, 1) := by decide +kernel
theorem d_LW_limit_1 : decode c_LW_limit 1 = .ok (.iload_n 1, 1) := by decide +kernel
theorem d_LW_limit_2 : decode c_LW_limit 2 = .ok (.iload_n 2, 1) := by decide +kernel
theorem d_LW_limit_3 : decode c_LW_limit 3 = .ok (.iload_n 3, 1) := by decide +kernel
theorem d_LW_limit_4 : decode c_LW_limit 4 = .ok (.invokevirtual 15, 3) := by decide +kernel
theorem d_LW_limit_7 : decode c_LW_limit 7 = .ok (.goto 7, 3) := by decide +kernel
theorem d_LW_limit_10 : decode c_LW_limit 10 = .ok (.astore 4, 2) := by decide +kernel
theorem d_LW_limit_12 : decode c_LW_limit 12 = .ok (.iconst 1, 1) := by decide +kernel
theorem d_LW_limit_13 : decode c_LW_limit 13 = .ok (.ireturn, 1) := by decide +kernel
theorem d_LW_limit_14 : decode c_LW_limit 14 = .ok (.iconst 0, 1) := by decide +kernel
theorem d_LW_limit_15 : decode c_LW_limit 15 = .ok (.ireturn, 1) := by decide +kernel
theorem d_LW_unit_0 : decode c_LW_unit 0 = .ok (.aload 4, 2) := by decide +kernel
theorem d_LW_unit_2 : decode c_LW_unit 2 = .ok (.iconst 0, 1) := by decide +kernel
theorem d_LW_unit_3 : decode c_LW_unit 3 = .ok (.aload_n 0, 1) := by decide +kernel
theorem d_LW_unit_4 : decode c_LW_unit 4 = .ok (.iload_n 1, 1) := by decide +kernel
theorem d_LW_unit_5 : decode c_LW_unit 5 = .ok (.iload_n 2, 1) := by decide +kernel
theorem d_LW_unit_6 : decode c_LW_unit 6 = .ok (.iload_n 3, 1) := by decide +kernel
theorem d_LW_unit_7 : decode c_LW_unit 7 = .ok (.invokevirtual 19, 3) := by decide +kernel
theorem d_LW_unit_10 : decode c_LW_unit 10 = .ok (.i2l, 1) := by decide +kernel
theorem d_LW_unit_11 : decode c_LW_unit 11 = .ok (.lastore, 1) := by decide +kernel
theorem d_LW_unit_12 : decode c_LW_unit 12 = .ok (.goto 11, 3) := by decide +kernel
theorem d_LW_unit_15 : decode c_LW_unit 15 = .ok (.astore 5, 2) := by decide +kernel
theorem d_LW_unit_17 : decode c_LW_unit 17 = .ok (.iconst 1, 1) := by decide +kernel
theorem d_LW_unit_18 : decode c_LW_unit 18 = .ok (.ireturn, 1) := by decide +kernel
theorem d_LW_unit_19 : decode c_LW_unit 19 = .ok (.astore 5, 2) := by decide +kernel
theorem d_LW_unit_21 : decode c_LW_unit 21 = .ok (.iconst 2, 1) := by decide +kernel
theorem d_LW_unit_22 : decode c_LW_unit 22 = .ok (.ireturn, 1) := by decide +kernel
theorem d_LW_unit_23 : decode c_LW_unit 23 = .ok (.iconst 0, 1) := by decide +kernel
theorem d_LW_unit_24 : decode c_LW_unit 24 = .ok (.ireturn, 1) := by decide +kernel
theorem d_LW_size_0 : decode c_LW_size 0 = .ok (.aload_n 0, 1) := by decide +kernel
theorem d_LW_size_1 : decode c_LW_size 1 = .ok (.iload_n 1, 1) := by decide +kernel
theorem d_LW_size_2 : decode c_LW_size 2 = .ok (.iload_n 2, 1) := by decide +kernel
theorem d_LW_size_3 : decode c_LW_size 3 = .ok (.iload_n 3, 1) := by decide +kernel
theorem d_LW_size_4 : decode c_LW_size 4 = .ok (.iload 4, 2) := by decide +kernel
theorem d_LW_size_6 : decode c_LW_size 6 = .ok (.iload 5, 2) := by decide +kernel
theorem d_LW_size_8 : decode c_LW_size 8 = .ok (.invokevirtual 25, 3) := by decide +kernel
theorem d_LW_size_11 : decode c_LW_size 11 = .ok (.goto 15, 3) := by decide +kernel
theorem d_LW_size_14 : decode c_LW_size 14 = .ok (.astore 6, 2) := by decide +kernel
theorem d_LW_size_16 : decode c_LW_size 16 = .ok (.iconst 1, 1) := by decide +kernel
theorem d_LW_size_17 : decode c_LW_size 17 = .ok (.ireturn, 1) := by decide +kernel
theorem d_LW_size_18 : decode c_LW_size 18 = .ok (.astore 6, 2) := by decide +kernel
theorem d_LW_size_20 : decode c_LW_size 20 = .ok (.iconst 2, 1) := by decide +kernel
theorem d_LW_size_21 : decode c_LW_size 21 = .ok (.ireturn, 1) := by decide +kernel
theorem d_LW_size_22 : decode c_LW_size 22 = .ok (.astore 6, 2) := by decide +kernel
theorem d_LW_size_24 : decode c_LW_size 24 = .ok (.iconst 3, 1) := by decide +kernel
theorem d_LW_size_25 : decode c_LW_size 25 = .ok (.ireturn, 1) := by decide +kernel
theorem d_LW_size_26 : decode c_LW_size 26 = .ok (.iconst 0, 1) := by decide +kernel
theorem d_LW_size_27 : decode c_LW_size 27 = .ok (.ireturn, 1) := by decide +kernel
theorem d_LW_nature_0 : decode c_LW_nature 0 = .ok (.aload_n 0, 1) := by decide +kernel
theorem d_LW_nature_1 : decode c_LW_nature 1 = .ok (.iload_n 1, 1) := by decide +kernel
theorem d_LW_nature_2 : decode c_LW_nature 2 = .ok (.iload_n 2, 1) := by decide +kernel
theorem d_LW_nature_3 : decode c_LW_nature 3 = .ok (.iload_n 3, 1) := by decide +kernel
theorem d_LW_nature_4 : decode c_LW_nature 4 = .ok (.iload 4, 2) := by decide +kernel
theorem d_LW_nature_6 : decode c_LW_nature 6 = .ok (.invokevirtual 33, 3) := by decide +kernel
theorem d_LW_nature_9 : decode c_LW_nature 9 = .ok (.goto 15, 3) := by decide +kernel
theorem d_LW_nature_12 : decode c_LW_nature 12 = .ok (.astore 5, 2) := by decide +kernel
theorem d_LW_nature_14 : decode c_LW_nature 14 = .ok (.iconst 1, 1) := by decide +kernel
theorem d_LW_nature_15 : decode c_LW_nature 15 = .ok (.ireturn, 1) := by decide +kernel
theorem d_LW_nature_16 : decode c_LW_nature 16 = .ok (.astore 5, 2) := by decide +kernel
theorem d_LW_nature_18 : decode c_LW_nature 18 = .ok (.iconst 2, 1) := by decide +kernel
theorem d_LW_nature_19 : decode c_LW_nature 19 = .ok (.ireturn, 1) := by decide +kernel
theorem d_LW_nature_20 : decode c_LW_nature 20 = .ok (.astore 5, 2) := by decide +kernel
theorem d_LW_nature_22 : decode c_LW_nature 22 = .ok (.iconst 3, 1) := by decide +kernel
theorem d_LW_nature_23 : decode c_LW_nature 23 = .ok (.ireturn, 1) := by decide +kernel
theorem d_LW_nature_24 : decode c_LW_nature 24 = .ok (.iconst 0, 1) := by decide +kernel
theorem d_LW_nature_25 : decode c_LW_nature 25 = .ok (.ireturn, 1) := by decide +kernel
theorem d_LW_rule_0 : decode c_LW_rule 0 = .ok (.aload 5, 2) := by decide +kernel
theorem d_LW_rule_2 : decode c_LW_rule 2 = .ok (.iconst 0, 1) := by decide +kernel
theorem d_LW_rule_3 : decode c_LW_rule 3 = .ok (.aload_n 0, 1) := by decide +kernel
theorem d_LW_rule_4 : decode c_LW_rule 4 = .ok (.iload_n 1, 1) := by decide +kernel
theorem d_LW_rule_5 : decode c_LW_rule 5 = .ok (.iload_n 2, 1) := by decide +kernel
theorem d_LW_rule_6 : decode c_LW_rule 6 = .ok (.iload_n 3, 1) := by decide +kernel
theorem d_LW_rule_7 : decode c_LW_rule 7 = .ok (.iload 4, 2) := by decide +kernel
theorem d_LW_rule_9 : decode c_LW_rule 9 = .ok (.invokevirtual 36, 3) := by decide +kernel
theorem d_LW_rule_12 : decode c_LW_rule 12 = .ok (.i2l, 1) := by decide +kernel
theorem d_LW_rule_13 : decode c_LW_rule 13 = .ok (.lastore, 1) := by decide +kernel
theorem d_LW_rule_14 : decode c_LW_rule 14 = .ok (.goto 11, 3) := by decide +kernel
theorem d_LW_rule_17 : decode c_LW_rule 17 = .ok (.astore 6, 2) := by decide +kernel
theorem d_LW_rule_19 : decode c_LW_rule 19 = .ok (.iconst 1, 1) := by decide +kernel
theorem d_LW_rule_20 : decode c_LW_rule 20 = .ok (.ireturn, 1) := by decide +kernel
theorem d_LW_rule_21 : decode c_LW_rule 21 = .ok (.astore 6, 2) := by decide +kernel
theorem d_LW_rule_23 : decode c_LW_rule 23 = .ok (.iconst 2, 1) := by decide +kernel
theorem d_LW_rule_24 : decode c_LW_rule 24 = .ok (.ireturn, 1) := by decide +kernel
theorem d_LW_rule_25 : decode c_LW_rule 25 = .ok (.iconst 0, 1) := by decide +kernel
theorem d_LW_rule_26 : decode c_LW_rule 26 = .ok (.ireturn, 1) := by decide +kernel
theorem d_LW_own_0 : decode c_LW_own 0 = .ok (.aload_n 0, 1) := by decide +kernel
theorem d_LW_own_1 : decode c_LW_own 1 = .ok (.iload_n 1, 1) := by decide +kernel
theorem d_LW_own_2 : decode c_LW_own 2 = .ok (.iload_n 2, 1) := by decide +kernel
theorem d_LW_own_3 : decode c_LW_own 3 = .ok (.invokevirtual 40, 3) := by decide +kernel
theorem d_LW_own_6 : decode c_LW_own 6 = .ok (.goto 6, 3) := by decide +kernel
theorem d_LW_own_9 : decode c_LW_own 9 = .ok (.astore_n 3, 1) := by decide +kernel
theorem d_LW_own_10 : decode c_LW_own 10 = .ok (.iconst 1, 1) := by decide +kernel
theorem d_LW_own_11 : decode c_LW_own 11 = .ok (.ireturn, 1) := by decide +kernel
theorem d_LW_own_12 : decode c_LW_own 12 = .ok (.iconst 0, 1) := by decide +kernel
theorem d_LW_own_13 : decode c_LW_own 13 = .ok (.ireturn, 1) := by decide +kernel
theorem d_LW_except_0 : decode c_LW_except 0 = .ok (.aload_n 0, 1) := by decide +kernel
theorem d_LW_except_1 : decode c_LW_except 1 = .ok (.iload_n 1, 1) := by decide +kernel
theorem d_LW_except_2 : decode c_LW_except 2 = .ok (.iload_n 2, 1) := by decide +kernel
theorem d_LW_except_3 : decode c_LW_except 3 = .ok (.iload_n 3, 1) := by decide +kernel
theorem d_LW_except_4 : decode c_LW_except 4 = .ok (.iload 4, 2) := by decide +kernel
theorem d_LW_except_6 : decode c_LW_except 6 = .ok (.invokevirtual 44, 3) := by decide +kernel
theorem d_LW_except_9 : decode c_LW_except 9 = .ok (.goto 15, 3) := by decide +kernel
theorem d_LW_except_12 : decode c_LW_except 12 = .ok (.astore 5, 2) := by decide +kernel
theorem d_LW_except_14 : decode c_LW_except 14 = .ok (.iconst 1, 1) := by decide +kernel
theorem d_LW_except_15 : decode c_LW_except 15 = .ok (.ireturn, 1) := by decide +kernel
theorem d_LW_except_16 : decode c_LW_except 16 = .ok (.astore 5, 2) := by decide +kernel
theorem d_LW_except_18 : decode c_LW_except 18 = .ok (.iconst 2, 1) := by decide +kernel
theorem d_LW_except_19 : decode c_LW_except 19 = .ok (.ireturn, 1) := by decide +kernel
theorem d_LW_except_20 : decode c_LW_except 20 = .ok (.astore 5, 2) := by decide +kernel
theorem d_LW_except_22 : decode c_LW_except 22 = .ok (.iconst 3, 1) := by decide +kernel
theorem d_LW_except_23 : decode c_LW_except 23 = .ok (.ireturn, 1) := by decide +kernel
theorem d_LW_except_24 : decode c_LW_except 24 = .ok (.iconst 0, 1) := by decide +kernel
theorem d_LW_except_25 : decode c_LW_except 25 = .ok (.ireturn, 1) := by decide +kernel
theorem d_LW_may_0 : decode c_LW_may 0 = .ok (.aload 4, 2) := by decide +kernel
theorem d_LW_may_2 : decode c_LW_may 2 = .ok (.iconst 0, 1) := by decide +kernel
theorem d_LW_may_3 : decode c_LW_may 3 = .ok (.aload_n 0, 1) := by decide +kernel
theorem d_LW_may_4 : decode c_LW_may 4 = .ok (.iload_n 1, 1) := by decide +kernel
theorem d_LW_may_5 : decode c_LW_may 5 = .ok (.iload_n 2, 1) := by decide +kernel
theorem d_LW_may_6 : decode c_LW_may 6 = .ok (.iload_n 3, 1) := by decide +kernel
theorem d_LW_may_7 : decode c_LW_may 7 = .ok (.invokevirtual 47, 3) := by decide +kernel
theorem d_LW_may_10 : decode c_LW_may 10 = .ok (.i2l, 1) := by decide +kernel
theorem d_LW_may_11 : decode c_LW_may 11 = .ok (.lastore, 1) := by decide +kernel
theorem d_LW_may_12 : decode c_LW_may 12 = .ok (.goto 11, 3) := by decide +kernel
theorem d_LW_may_15 : decode c_LW_may 15 = .ok (.astore 5, 2) := by decide +kernel
theorem d_LW_may_17 : decode c_LW_may 17 = .ok (.iconst 1, 1) := by decide +kernel
theorem d_LW_may_18 : decode c_LW_may 18 = .ok (.ireturn, 1) := by decide +kernel
theorem d_LW_may_19 : decode c_LW_may 19 = .ok (.astore 5, 2) := by decide +kernel
theorem d_LW_may_21 : decode c_LW_may 21 = .ok (.iconst 2, 1) := by decide +kernel
theorem d_LW_may_22 : decode c_LW_may 22 = .ok (.ireturn, 1) := by decide +kernel
theorem d_LW_may_23 : decode c_LW_may 23 = .ok (.iconst 0, 1) := by decide +kernel
theorem d_LW_may_24 : decode c_LW_may 24 = .ok (.ireturn, 1) := by decide +kernel
theorem d_LW_explain_0 : decode c_LW_explain 0 = .ok (.aload_n 2, 1) := by decide +kernel
theorem d_LW_explain_1 : decode c_LW_explain 1 = .ok (.iconst 0, 1) := by decide +kernel
theorem d_LW_explain_2 : decode c_LW_explain 2 = .ok (.aload_n 0, 1) := by decide +kernel
theorem d_LW_explain_3 : decode c_LW_explain 3 = .ok (.iload_n 1, 1) := by decide +kernel
theorem d_LW_explain_4 : decode c_LW_explain 4 = .ok (.invokevirtual 50, 3) := by decide +kernel
theorem d_LW_explain_7 : decode c_LW_explain 7 = .ok (.i2l, 1) := by decide +kernel
theorem d_LW_explain_8 : decode c_LW_explain 8 = .ok (.lastore, 1) := by decide +kernel
theorem d_LW_explain_9 : decode c_LW_explain 9 = .ok (.goto 6, 3) := by decide +kernel
theorem d_LW_explain_12 : decode c_LW_explain 12 = .ok (.astore_n 3, 1) := by decide +kernel
theorem d_LW_explain_13 : decode c_LW_explain 13 = .ok (.iconst 1, 1) := by decide +kernel
theorem d_LW_explain_14 : decode c_LW_explain 14 = .ok (.ireturn, 1) := by decide +kernel
theorem d_LW_explain_15 : decode c_LW_explain 15 = .ok (.iconst 0, 1) := by decide +kernel
theorem d_LW_explain_16 : decode c_LW_explain 16 = .ok (.ireturn, 1) := by decide +kernel
theorem d_LW_put_0 : decode c_LW_put 0 = .ok (.aload 4, 2) := by decide +kernel
theorem d_LW_put_2 : decode c_LW_put 2 = .ok (.iconst 0, 1) := by decide +kernel
theorem d_LW_put_3 : decode c_LW_put 3 = .ok (.aload_n 0, 1) := by decide +kernel
theorem d_LW_put_4 : decode c_LW_put 4 = .ok (.iload_n 1, 1) := by decide +kernel
theorem d_LW_put_5 : decode c_LW_put 5 = .ok (.iload_n 2, 1) := by decide +kernel
theorem d_LW_put_6 : decode c_LW_put 6 = .ok (.iload_n 3, 1) := by decide +kernel
theorem d_LW_put_7 : decode c_LW_put 7 = .ok (.invokevirtual 54, 3) := by decide +kernel
theorem d_LW_put_10 : decode c_LW_put 10 = .ok (.i2l, 1) := by decide +kernel
theorem d_LW_put_11 : decode c_LW_put 11 = .ok (.lastore, 1) := by decide +kernel
theorem d_LW_put_12 : decode c_LW_put 12 = .ok (.goto 15, 3) := by decide +kernel
theorem d_LW_put_15 : decode c_LW_put 15 = .ok (.astore 5, 2) := by decide +kernel
theorem d_LW_put_17 : decode c_LW_put 17 = .ok (.iconst 1, 1) := by decide +kernel
theorem d_LW_put_18 : decode c_LW_put 18 = .ok (.ireturn, 1) := by decide +kernel
theorem d_LW_put_19 : decode c_LW_put 19 = .ok (.astore 5, 2) := by decide +kernel
theorem d_LW_put_21 : decode c_LW_put 21 = .ok (.iconst 2, 1) := by decide +kernel
theorem d_LW_put_22 : decode c_LW_put 22 = .ok (.ireturn, 1) := by decide +kernel
theorem d_LW_put_23 : decode c_LW_put 23 = .ok (.astore 5, 2) := by decide +kernel
theorem d_LW_put_25 : decode c_LW_put 25 = .ok (.iconst 3, 1) := by decide +kernel
theorem d_LW_put_26 : decode c_LW_put 26 = .ok (.ireturn, 1) := by decide +kernel
theorem d_LW_put_27 : decode c_LW_put 27 = .ok (.iconst 0, 1) := by decide +kernel
theorem d_LW_put_28 : decode c_LW_put 28 = .ok (.ireturn, 1) := by decide +kernel
theorem d_LW_take_0 : decode c_LW_take 0 = .ok (.aload_n 0, 1) := by decide +kernel
theorem d_LW_take_1 : decode c_LW_take 1 = .ok (.iload_n 1, 1) := by decide +kernel
theorem d_LW_take_2 : decode c_LW_take 2 = .ok (.invokevirtual 57, 3) := by decide +kernel
theorem d_LW_take_5 : decode c_LW_take 5 = .ok (.goto 9, 3) := by decide +kernel
theorem d_LW_take_8 : decode c_LW_take 8 = .ok (.astore_n 2, 1) := by decide +kernel
theorem d_LW_take_9 : decode c_LW_take 9 = .ok (.iconst 1, 1) := by decide +kernel
theorem d_LW_take_10 : decode c_LW_take 10 = .ok (.ireturn, 1) := by decide +kernel
theorem d_LW_take_11 : decode c_LW_take 11 = .ok (.astore_n 2, 1) := by decide +kernel
theorem d_LW_take_12 : decode c_LW_take 12 = .ok (.iconst 2, 1) := by decide +kernel
theorem d_LW_take_13 : decode c_LW_take 13 = .ok (.ireturn, 1) := by decide +kernel
theorem d_LW_take_14 : decode c_LW_take 14 = .ok (.iconst 0, 1) := by decide +kernel
theorem d_LW_take_15 : decode c_LW_take 15 = .ok (.ireturn, 1) := by decide +kernel
theorem d_LW_turned_0 : decode c_LW_turned 0 = .ok (.aload_n 3, 1) := by decide +kernel
theorem d_LW_turned_1 : decode c_LW_turned 1 = .ok (.iconst 0, 1) := by decide +kernel
theorem d_LW_turned_2 : decode c_LW_turned 2 = .ok (.aload_n 0, 1) := by decide +kernel
theorem d_LW_turned_3 : decode c_LW_turned 3 = .ok (.iload_n 1, 1) := by decide +kernel
theorem d_LW_turned_4 : decode c_LW_turned 4 = .ok (.iload_n 2, 1) := by decide +kernel
theorem d_LW_turned_5 : decode c_LW_turned 5 = .ok (.invokevirtual 61, 3) := by decide +kernel
theorem d_LW_turned_8 : decode c_LW_turned 8 = .ok (.i2l, 1) := by decide +kernel
theorem d_LW_turned_9 : decode c_LW_turned 9 = .ok (.lastore, 1) := by decide +kernel
theorem d_LW_turned_10 : decode c_LW_turned 10 = .ok (.goto 11, 3) := by decide +kernel
theorem d_LW_turned_13 : decode c_LW_turned 13 = .ok (.astore 4, 2) := by decide +kernel
theorem d_LW_turned_15 : decode c_LW_turned 15 = .ok (.iconst 1, 1) := by decide +kernel
theorem d_LW_turned_16 : decode c_LW_turned 16 = .ok (.ireturn, 1) := by decide +kernel
theorem d_LW_turned_17 : decode c_LW_turned 17 = .ok (.astore 4, 2) := by decide +kernel
theorem d_LW_turned_19 : decode c_LW_turned 19 = .ok (.iconst 2, 1) := by decide +kernel
theorem d_LW_turned_20 : decode c_LW_turned 20 = .ok (.ireturn, 1) := by decide +kernel
theorem d_LW_turned_21 : decode c_LW_turned 21 = .ok (.iconst 0, 1) := by decide +kernel
theorem d_LW_turned_22 : decode c_LW_turned 22 = .ok (.ireturn, 1) := by decide +kernel
theorem d_LW_never_0 : decode c_LW_never 0 = .ok (.aload_n 2, 1) := by decide +kernel
theorem d_LW_never_1 : decode c_LW_never 1 = .ok (.iconst 0, 1) := by decide +kernel
theorem d_LW_never_2 : decode c_LW_never 2 = .ok (.aload_n 0, 1) := by decide +kernel
theorem d_LW_never_3 : decode c_LW_never 3 = .ok (.iload_n 1, 1) := by decide +kernel
theorem d_LW_never_4 : decode c_LW_never 4 = .ok (.invokevirtual 65, 3) := by decide +kernel
theorem d_LW_never_7 : decode c_LW_never 7 = .ok (.i2l, 1) := by decide +kernel
theorem d_LW_never_8 : decode c_LW_never 8 = .ok (.lastore, 1) := by decide +kernel
theorem d_LW_never_9 : decode c_LW_never 9 = .ok (.goto 6, 3) := by decide +kernel
theorem d_LW_never_12 : decode c_LW_never 12 = .ok (.astore_n 3, 1) := by decide +kernel
theorem d_LW_never_13 : decode c_LW_never 13 = .ok (.iconst 1, 1) := by decide +kernel
theorem d_LW_never_14 : decode c_LW_never 14 = .ok (.ireturn, 1) := by decide +kernel
theorem d_LW_never_15 : decode c_LW_never 15 = .ok (.iconst 0, 1) := by decide +kernel
theorem d_LW_never_16 : decode c_LW_never 16 = .ok (.ireturn, 1) := by decide +kernel
theorem d_LW_clash_0 : decode c_LW_clash 0 = .ok (.aload_n 3, 1) := by decide +kernel
theorem d_LW_clash_1 : decode c_LW_clash 1 = .ok (.iconst 0, 1) := by decide +kernel
theorem d_LW_clash_2 : decode c_LW_clash 2 = .ok (.aload_n 0, 1) := by decide +kernel
theorem d_LW_clash_3 : decode c_LW_clash 3 = .ok (.iload_n 1, 1) := by decide +kernel
theorem d_LW_clash_4 : decode c_LW_clash 4 = .ok (.iload_n 2, 1) := by decide +kernel
theorem d_LW_clash_5 : decode c_LW_clash 5 = .ok (.invokevirtual 68, 3) := by decide +kernel
theorem d_LW_clash_8 : decode c_LW_clash 8 = .ok (.i2l, 1) := by decide +kernel
theorem d_LW_clash_9 : decode c_LW_clash 9 = .ok (.lastore, 1) := by decide +kernel
theorem d_LW_clash_10 : decode c_LW_clash 10 = .ok (.goto 7, 3) := by decide +kernel
theorem d_LW_clash_13 : decode c_LW_clash 13 = .ok (.astore 4, 2) := by decide +kernel
theorem d_LW_clash_15 : decode c_LW_clash 15 = .ok (.iconst 1, 1) := by decide +kernel
theorem d_LW_clash_16 : decode c_LW_clash 16 = .ok (.ireturn, 1) := by decide +kernel
theorem d_LW_clash_17 : decode c_LW_clash 17 = .ok (.iconst 0, 1) := by decide +kernel
theorem d_LW_clash_18 : decode c_LW_clash 18 = .ok (.ireturn, 1) := by decide +kernel
theorem d_LW_at_0 : decode c_LW_at 0 = .ok (.aload_n 3, 1) := by decide +kernel
theorem d_LW_at_1 : decode c_LW_at 1 = .ok (.iconst 0, 1) := by decide +kernel
theorem d_LW_at_2 : decode c_LW_at 2 = .ok (.aload_n 0, 1) := by decide +kernel
theorem d_LW_at_3 : decode c_LW_at 3 = .ok (.iload_n 1, 1) := by decide +kernel
theorem d_LW_at_4 : decode c_LW_at 4 = .ok (.iload_n 2, 1) := by decide +kernel
theorem d_LW_at_5 : decode c_LW_at 5 = .ok (.invokevirtual 71, 3) := by decide +kernel
theorem d_LW_at_8 : decode c_LW_at 8 = .ok (.i2l, 1) := by decide +kernel
theorem d_LW_at_9 : decode c_LW_at 9 = .ok (.lastore, 1) := by decide +kernel
theorem d_LW_at_10 : decode c_LW_at 10 = .ok (.goto 7, 3) := by decide +kernel
theorem d_LW_at_13 : decode c_LW_at 13 = .ok (.astore 4, 2) := by decide +kernel
theorem d_LW_at_15 : decode c_LW_at 15 = .ok (.iconst 1, 1) := by decide +kernel
theorem d_LW_at_16 : decode c_LW_at 16 = .ok (.ireturn, 1) := by decide +kernel
theorem d_LW_at_17 : decode c_LW_at 17 = .ok (.iconst 0, 1) := by decide +kernel
theorem d_LW_at_18 : decode c_LW_at 18 = .ok (.ireturn, 1) := by decide +kernel
theorem d_LW_law_0 : decode code 0 = .ok (.new 8, 3) := by decide +kernel
theorem d_LW_law_3 : decode code 3 = .ok (.dup, 1) := by decide +kernel
theorem d_LW_law_4 : decode code 4 = .ok (.invokespecial 74, 3) := by decide +kernel
theorem d_LW_law_7 : decode code 7 = .ok (.astore_n 1, 1) := by decide +kernel
theorem d_LW_law_8 : decode code 8 = .ok (.new 75, 3) := by decide +kernel
theorem d_LW_law_11 : decode code 11 = .ok (.dup, 1) := by decide +kernel
theorem d_LW_law_12 : decode code 12 = .ok (.invokespecial 77, 3) := by decide +kernel
theorem d_LW_law_15 : decode code 15 = .ok (.astore_n 2, 1) := by decide +kernel
theorem d_LW_law_16 : decode code 16 = .ok (.iconst 1, 1) := by decide +kernel
theorem d_LW_law_17 : decode code 17 = .ok (.newarray .long, 2) := by decide +kernel
theorem d_LW_law_19 : decode code 19 = .ok (.astore_n 3, 1) := by decide +kernel
theorem d_LW_law_20 : decode code 20 = .ok (.iconst 0, 1) := by decide +kernel
theorem d_LW_law_21 : decode code 21 = .ok (.istore 4, 2) := by decide +kernel
theorem d_LW_law_23 : decode code 23 = .ok (.iload 4, 2) := by decide +kernel
theorem d_LW_law_25 : decode code 25 = .ok (.aload_n 0, 1) := by decide +kernel
theorem d_LW_law_26 : decode code 26 = .ok (.arraylength, 1) := by decide +kernel
theorem d_LW_law_27 : decode code 27 = .ok (.bipush 6, 2) := by decide +kernel
theorem d_LW_law_29 : decode code 29 = .ok (.isub, 1) := by decide +kernel
theorem d_LW_law_30 : decode code 30 = .ok (.if_icmp .gt 1263, 3) := by decide +kernel
theorem d_LW_law_33 : decode code 33 = .ok (.aload_n 0, 1) := by decide +kernel
theorem d_LW_law_34 : decode code 34 = .ok (.iload 4, 2) := by decide +kernel
theorem d_LW_law_36 : decode code 36 = .ok (.iaload, 1) := by decide +kernel
theorem d_LW_law_37 : decode code 37 = .ok (.bipush 31, 2) := by decide +kernel
theorem d_LW_law_39 : decode code 39 = .ok (.iand, 1) := by decide +kernel
theorem d_LW_law_40 : decode code 40 = .ok (.tableswitch 1247 0 18 #[92, 164, 224, 304, 388, 460, 552, 577, 590, 638, 710, 790, 846, 926, 962, 1030, 1086, 1154, 1222], 92) := by decide +kernel
theorem d_LW_law_132 : decode code 132 = .ok (.aload_n 1, 1) := by decide +kernel
theorem d_LW_law_133 : decode code 133 = .ok (.aload_n 0, 1) := by decide +kernel
theorem d_LW_law_134 : decode code 134 = .ok (.iload 4, 2) := by decide +kernel
theorem d_LW_law_136 : decode code 136 = .ok (.iconst 1, 1) := by decide +kernel
theorem d_LW_law_137 : decode code 137 = .ok (.iadd, 1) := by decide +kernel
theorem d_LW_law_138 : decode code 138 = .ok (.iaload, 1) := by decide +kernel
theorem d_LW_law_139 : decode code 139 = .ok (.aload_n 0, 1) := by decide +kernel
theorem d_LW_law_140 : decode code 140 = .ok (.iload 4, 2) := by decide +kernel
theorem d_LW_law_142 : decode code 142 = .ok (.iconst 2, 1) := by decide +kernel
theorem d_LW_law_143 : decode code 143 = .ok (.iadd, 1) := by decide +kernel
theorem d_LW_law_144 : decode code 144 = .ok (.iaload, 1) := by decide +kernel
theorem d_LW_law_145 : decode code 145 = .ok (.aload_n 0, 1) := by decide +kernel
theorem d_LW_law_146 : decode code 146 = .ok (.iload 4, 2) := by decide +kernel
theorem d_LW_law_148 : decode code 148 = .ok (.iconst 3, 1) := by decide +kernel
theorem d_LW_law_149 : decode code 149 = .ok (.iadd, 1) := by decide +kernel
theorem d_LW_law_150 : decode code 150 = .ok (.iaload, 1) := by decide +kernel
theorem d_LW_law_151 : decode code 151 = .ok (.aload_n 0, 1) := by decide +kernel
theorem d_LW_law_152 : decode code 152 = .ok (.iload 4, 2) := by decide +kernel
theorem d_LW_law_154 : decode code 154 = .ok (.iconst 4, 1) := by decide +kernel
theorem d_LW_law_155 : decode code 155 = .ok (.iadd, 1) := by decide +kernel
theorem d_LW_law_156 : decode code 156 = .ok (.iaload, 1) := by decide +kernel
theorem d_LW_law_157 : decode code 157 = .ok (.invokestatic 78, 3) := by decide +kernel
theorem d_LW_law_160 : decode code 160 = .ok (.istore 5, 2) := by decide +kernel
theorem d_LW_law_162 : decode code 162 = .ok (.aload_n 2, 1) := by decide +kernel
theorem d_LW_law_163 : decode code 163 = .ok (.aload_n 0, 1) := by decide +kernel
theorem d_LW_law_164 : decode code 164 = .ok (.iload 4, 2) := by decide +kernel
theorem d_LW_law_166 : decode code 166 = .ok (.iconst 1, 1) := by decide +kernel
theorem d_LW_law_167 : decode code 167 = .ok (.iadd, 1) := by decide +kernel
theorem d_LW_law_168 : decode code 168 = .ok (.iaload, 1) := by decide +kernel
theorem d_LW_law_169 : decode code 169 = .ok (.aload_n 0, 1) := by decide +kernel
theorem d_LW_law_170 : decode code 170 = .ok (.iload 4, 2) := by decide +kernel
theorem d_LW_law_172 : decode code 172 = .ok (.iconst 2, 1) := by decide +kernel
theorem d_LW_law_173 : decode code 173 = .ok (.iadd, 1) := by decide +kernel
theorem d_LW_law_174 : decode code 174 = .ok (.iaload, 1) := by decide +kernel
theorem d_LW_law_175 : decode code 175 = .ok (.aload_n 0, 1) := by decide +kernel
theorem d_LW_law_176 : decode code 176 = .ok (.iload 4, 2) := by decide +kernel
theorem d_LW_law_178 : decode code 178 = .ok (.iconst 3, 1) := by decide +kernel
theorem d_LW_law_179 : decode code 179 = .ok (.iadd, 1) := by decide +kernel
theorem d_LW_law_180 : decode code 180 = .ok (.iaload, 1) := by decide +kernel
theorem d_LW_law_181 : decode code 181 = .ok (.aload_n 0, 1) := by decide +kernel
theorem d_LW_law_182 : decode code 182 = .ok (.iload 4, 2) := by decide +kernel
theorem d_LW_law_184 : decode code 184 = .ok (.iconst 4, 1) := by decide +kernel
theorem d_LW_law_185 : decode code 185 = .ok (.iadd, 1) := by decide +kernel
theorem d_LW_law_186 : decode code 186 = .ok (.iaload, 1) := by decide +kernel
theorem d_LW_law_187 : decode code 187 = .ok (.invokevirtual 83, 3) := by decide +kernel
theorem d_LW_law_190 : decode code 190 = .ok (.aload_n 2, 1) := by decide +kernel
theorem d_LW_law_191 : decode code 191 = .ok (.invokevirtual 84, 3) := by decide +kernel
theorem d_LW_law_194 : decode code 194 = .ok (.iload 5, 2) := by decide +kernel
theorem d_LW_law_196 : decode code 196 = .ok (.if_icmp .eq 5, 3) := by decide +kernel
theorem d_LW_law_199 : decode code 199 = .ok (.iconst 0, 1) := by decide +kernel
theorem d_LW_law_200 : decode code 200 = .ok (.ireturn, 1) := by decide +kernel
theorem d_LW_law_201 : decode code 201 = .ok (.goto 1086, 3) := by decide +kernel
theorem d_LW_law_204 : decode code 204 = .ok (.aload_n 1, 1) := by decide +kernel
theorem d_LW_law_205 : decode code 205 = .ok (.aload_n 0, 1) := by decide +kernel
theorem d_LW_law_206 : decode code 206 = .ok (.iload 4, 2) := by decide +kernel
theorem d_LW_law_208 : decode code 208 = .ok (.iconst 1, 1) := by decide +kernel
theorem d_LW_law_209 : decode code 209 = .ok (.iadd, 1) := by decide +kernel
theorem d_LW_law_210 : decode code 210 = .ok (.iaload, 1) := by decide +kernel
theorem d_LW_law_211 : decode code 211 = .ok (.aload_n 0, 1) := by decide +kernel
theorem d_LW_law_212 : decode code 212 = .ok (.iload 4, 2) := by decide +kernel
theorem d_LW_law_214 : decode code 214 = .ok (.iconst 2, 1) := by decide +kernel
theorem d_LW_law_215 : decode code 215 = .ok (.iadd, 1) := by decide +kernel
theorem d_LW_law_216 : decode code 216 = .ok (.iaload, 1) := by decide +kernel
theorem d_LW_law_217 : decode code 217 = .ok (.aload_n 0, 1) := by decide +kernel
theorem d_LW_law_218 : decode code 218 = .ok (.iload 4, 2) := by decide +kernel
theorem d_LW_law_220 : decode code 220 = .ok (.iconst 3, 1) := by decide +kernel
theorem d_LW_law_221 : decode code 221 = .ok (.iadd, 1) := by decide +kernel
theorem d_LW_law_222 : decode code 222 = .ok (.iaload, 1) := by decide +kernel
theorem d_LW_law_223 : decode code 223 = .ok (.invokestatic 88, 3) := by decide +kernel
theorem d_LW_law_226 : decode code 226 = .ok (.istore 5, 2) := by decide +kernel
theorem d_LW_law_228 : decode code 228 = .ok (.aload_n 2, 1) := by decide +kernel
theorem d_LW_law_229 : decode code 229 = .ok (.aload_n 0, 1) := by decide +kernel
theorem d_LW_law_230 : decode code 230 = .ok (.iload 4, 2) := by decide +kernel
theorem d_LW_law_232 : decode code 232 = .ok (.iconst 1, 1) := by decide +kernel
theorem d_LW_law_233 : decode code 233 = .ok (.iadd, 1) := by decide +kernel
theorem d_LW_law_234 : decode code 234 = .ok (.iaload, 1) := by decide +kernel
theorem d_LW_law_235 : decode code 235 = .ok (.aload_n 0, 1) := by decide +kernel
theorem d_LW_law_236 : decode code 236 = .ok (.iload 4, 2) := by decide +kernel
theorem d_LW_law_238 : decode code 238 = .ok (.iconst 2, 1) := by decide +kernel
theorem d_LW_law_239 : decode code 239 = .ok (.iadd, 1) := by decide +kernel
theorem d_LW_law_240 : decode code 240 = .ok (.iaload, 1) := by decide +kernel
theorem d_LW_law_241 : decode code 241 = .ok (.aload_n 0, 1) := by decide +kernel
theorem d_LW_law_242 : decode code 242 = .ok (.iload 4, 2) := by decide +kernel
theorem d_LW_law_244 : decode code 244 = .ok (.iconst 3, 1) := by decide +kernel
theorem d_LW_law_245 : decode code 245 = .ok (.iadd, 1) := by decide +kernel
theorem d_LW_law_246 : decode code 246 = .ok (.iaload, 1) := by decide +kernel
theorem d_LW_law_247 : decode code 247 = .ok (.invokevirtual 91, 3) := by decide +kernel
theorem d_LW_law_250 : decode code 250 = .ok (.aload_n 2, 1) := by decide +kernel
theorem d_LW_law_251 : decode code 251 = .ok (.invokevirtual 84, 3) := by decide +kernel
theorem d_LW_law_254 : decode code 254 = .ok (.iload 5, 2) := by decide +kernel
theorem d_LW_law_256 : decode code 256 = .ok (.if_icmp .eq 5, 3) := by decide +kernel
theorem d_LW_law_259 : decode code 259 = .ok (.iconst 0, 1) := by decide +kernel
theorem d_LW_law_260 : decode code 260 = .ok (.ireturn, 1) := by decide +kernel
theorem d_LW_law_261 : decode code 261 = .ok (.goto 1026, 3) := by decide +kernel
theorem d_LW_law_264 : decode code 264 = .ok (.aload_n 1, 1) := by decide +kernel
theorem d_LW_law_265 : decode code 265 = .ok (.aload_n 0, 1) := by decide +kernel
theorem d_LW_law_266 : decode code 266 = .ok (.iload 4, 2) := by decide +kernel
theorem d_LW_law_268 : decode code 268 = .ok (.iconst 1, 1) := by decide +kernel
theorem d_LW_law_269 : decode code 269 = .ok (.iadd, 1) := by decide +kernel
theorem d_LW_law_270 : decode code 270 = .ok (.iaload, 1) := by decide +kernel
theorem d_LW_law_271 : decode code 271 = .ok (.aload_n 0, 1) := by decide +kernel
theorem d_LW_law_272 : decode code 272 = .ok (.iload 4, 2) := by decide +kernel
theorem d_LW_law_274 : decode code 274 = .ok (.iconst 2, 1) := by decide +kernel
theorem d_LW_law_275 : decode code 275 = .ok (.iadd, 1) := by decide +kernel
theorem d_LW_law_276 : decode code 276 = .ok (.iaload, 1) := by decide +kernel
theorem d_LW_law_277 : decode code 277 = .ok (.aload_n 0, 1) := by decide +kernel
theorem d_LW_law_278 : decode code 278 = .ok (.iload 4, 2) := by decide +kernel
theorem d_LW_law_280 : decode code 280 = .ok (.iconst 3, 1) := by decide +kernel
theorem d_LW_law_281 : decode code 281 = .ok (.iadd, 1) := by decide +kernel
theorem d_LW_law_282 : decode code 282 = .ok (.iaload, 1) := by decide +kernel
theorem d_LW_law_283 : decode code 283 = .ok (.aload_n 3, 1) := by decide +kernel
theorem d_LW_law_284 : decode code 284 = .ok (.invokestatic 92, 3) := by decide +kernel
theorem d_LW_law_287 : decode code 287 = .ok (.istore 5, 2) := by decide +kernel
theorem d_LW_law_289 : decode code 289 = .ok (.aload_n 2, 1) := by decide +kernel
theorem d_LW_law_290 : decode code 290 = .ok (.aload_n 0, 1) := by decide +kernel
theorem d_LW_law_291 : decode code 291 = .ok (.iload 4, 2) := by decide +kernel
theorem d_LW_law_293 : decode code 293 = .ok (.iconst 1, 1) := by decide +kernel
theorem d_LW_law_294 : decode code 294 = .ok (.iadd, 1) := by decide +kernel
theorem d_LW_law_295 : decode code 295 = .ok (.iaload, 1) := by decide +kernel
theorem d_LW_law_296 : decode code 296 = .ok (.aload_n 0, 1) := by decide +kernel
theorem d_LW_law_297 : decode code 297 = .ok (.iload 4, 2) := by decide +kernel
theorem d_LW_law_299 : decode code 299 = .ok (.iconst 2, 1) := by decide +kernel
theorem d_LW_law_300 : decode code 300 = .ok (.iadd, 1) := by decide +kernel
theorem d_LW_law_301 : decode code 301 = .ok (.iaload, 1) := by decide +kernel
theorem d_LW_law_302 : decode code 302 = .ok (.aload_n 0, 1) := by decide +kernel
theorem d_LW_law_303 : decode code 303 = .ok (.iload 4, 2) := by decide +kernel
theorem d_LW_law_305 : decode code 305 = .ok (.iconst 3, 1) := by decide +kernel
theorem d_LW_law_306 : decode code 306 = .ok (.iadd, 1) := by decide +kernel
theorem d_LW_law_307 : decode code 307 = .ok (.iaload, 1) := by decide +kernel
theorem d_LW_law_308 : decode code 308 = .ok (.invokevirtual 95, 3) := by decide +kernel
theorem d_LW_law_311 : decode code 311 = .ok (.istore 6, 2) := by decide +kernel
theorem d_LW_law_313 : decode code 313 = .ok (.aload_n 2, 1) := by decide +kernel
theorem d_LW_law_314 : decode code 314 = .ok (.invokevirtual 84, 3) := by decide +kernel
theorem d_LW_law_317 : decode code 317 = .ok (.iload 5, 2) := by decide +kernel
theorem d_LW_law_319 : decode code 319 = .ok (.if_icmp .eq 5, 3) := by decide +kernel
theorem d_LW_law_322 : decode code 322 = .ok (.iconst 0, 1) := by decide +kernel
theorem d_LW_law_323 : decode code 323 = .ok (.ireturn, 1) := by decide +kernel
theorem d_LW_law_324 : decode code 324 = .ok (.iload 5, 2) := by decide +kernel
theorem d_LW_law_326 : decode code 326 = .ok (.ifCond .ne 15, 3) := by decide +kernel
theorem d_LW_law_329 : decode code 329 = .ok (.aload_n 3, 1) := by decide +kernel
theorem d_LW_law_330 : decode code 330 = .ok (.iconst 0, 1) := by decide +kernel
theorem d_LW_law_331 : decode code 331 = .ok (.laload, 1) := by decide +kernel
theorem d_LW_law_332 : decode code 332 = .ok (.iload 6, 2) := by decide +kernel
theorem d_LW_law_334 : decode code 334 = .ok (.i2l, 1) := by decide +kernel
theorem d_LW_law_335 : decode code 335 = .ok (.lcmp, 1) := by decide +kernel
theorem d_LW_law_336 : decode code 336 = .ok (.ifCond .eq 5, 3) := by decide +kernel
theorem d_LW_law_339 : decode code 339 = .ok (.iconst 0, 1) := by decide +kernel
theorem d_LW_law_340 : decode code 340 = .ok (.ireturn, 1) := by decide +kernel
theorem d_LW_law_341 : decode code 341 = .ok (.goto 946, 3) := by decide +kernel
theorem d_LW_law_344 : decode code 344 = .ok (.aload_n 1, 1) := by decide +kernel
theorem d_LW_law_345 : decode code 345 = .ok (.aload_n 0, 1) := by decide +kernel
theorem d_LW_law_346 : decode code 346 = .ok (.iload 4, 2) := by decide +kernel
theorem d_LW_law_348 : decode code 348 = .ok (.iconst 1, 1) := by decide +kernel
theorem d_LW_law_349 : decode code 349 = .ok (.iadd, 1) := by decide +kernel
theorem d_LW_law_350 : decode code 350 = .ok (.iaload, 1) := by decide +kernel
theorem d_LW_law_351 : decode code 351 = .ok (.aload_n 0, 1) := by decide +kernel
theorem d_LW_law_352 : decode code 352 = .ok (.iload 4, 2) := by decide +kernel
theorem d_LW_law_354 : decode code 354 = .ok (.iconst 2, 1) := by decide +kernel
theorem d_LW_law_355 : decode code 355 = .ok (.iadd, 1) := by decide +kernel
theorem d_LW_law_356 : decode code 356 = .ok (.iaload, 1) := by decide +kernel
theorem d_LW_law_357 : decode code 357 = .ok (.aload_n 0, 1) := by decide +kernel
theorem d_LW_law_358 : decode code 358 = .ok (.iload 4, 2) := by decide +kernel
theorem d_LW_law_360 : decode code 360 = .ok (.iconst 3, 1) := by decide +kernel
theorem d_LW_law_361 : decode code 361 = .ok (.iadd, 1) := by decide +kernel
theorem d_LW_law_362 : decode code 362 = .ok (.iaload, 1) := by decide +kernel
theorem d_LW_law_363 : decode code 363 = .ok (.aload_n 0, 1) := by decide +kernel
theorem d_LW_law_364 : decode code 364 = .ok (.iload 4, 2) := by decide +kernel
theorem d_LW_law_366 : decode code 366 = .ok (.iconst 4, 1) := by decide +kernel
theorem d_LW_law_367 : decode code 367 = .ok (.iadd, 1) := by decide +kernel
theorem d_LW_law_368 : decode code 368 = .ok (.iaload, 1) := by decide +kernel
theorem d_LW_law_369 : decode code 369 = .ok (.aload_n 0, 1) := by decide +kernel
theorem d_LW_law_370 : decode code 370 = .ok (.iload 4, 2) := by decide +kernel
theorem d_LW_law_372 : decode code 372 = .ok (.iconst 5, 1) := by decide +kernel
theorem d_LW_law_373 : decode code 373 = .ok (.iadd, 1) := by decide +kernel
theorem d_LW_law_374 : decode code 374 = .ok (.iaload, 1) := by decide +kernel
theorem d_LW_law_375 : decode code 375 = .ok (.invokestatic 96, 3) := by decide +kernel
theorem d_LW_law_378 : decode code 378 = .ok (.istore 5, 2) := by decide +kernel
theorem d_LW_law_380 : decode code 380 = .ok (.aload_n 2, 1) := by decide +kernel
theorem d_LW_law_381 : decode code 381 = .ok (.aload_n 0, 1) := by decide +kernel
theorem d_LW_law_382 : decode code 382 = .ok (.iload 4, 2) := by decide +kernel
theorem d_LW_law_384 : decode code 384 = .ok (.iconst 1, 1) := by decide +kernel
theorem d_LW_law_385 : decode code 385 = .ok (.iadd, 1) := by decide +kernel
theorem d_LW_law_386 : decode code 386 = .ok (.iaload, 1) := by decide +kernel
theorem d_LW_law_387 : decode code 387 = .ok (.aload_n 0, 1) := by decide +kernel
theorem d_LW_law_388 : decode code 388 = .ok (.iload 4, 2) := by decide +kernel
theorem d_LW_law_390 : decode code 390 = .ok (.iconst 2, 1) := by decide +kernel
theorem d_LW_law_391 : decode code 391 = .ok (.iadd, 1) := by decide +kernel
theorem d_LW_law_392 : decode code 392 = .ok (.iaload, 1) := by decide +kernel
theorem d_LW_law_393 : decode code 393 = .ok (.aload_n 0, 1) := by decide +kernel
theorem d_LW_law_394 : decode code 394 = .ok (.iload 4, 2) := by decide +kernel
theorem d_LW_law_396 : decode code 396 = .ok (.iconst 3, 1) := by decide +kernel
theorem d_LW_law_397 : decode code 397 = .ok (.iadd, 1) := by decide +kernel
theorem d_LW_law_398 : decode code 398 = .ok (.iaload, 1) := by decide +kernel
theorem d_LW_law_399 : decode code 399 = .ok (.aload_n 0, 1) := by decide +kernel
theorem d_LW_law_400 : decode code 400 = .ok (.iload 4, 2) := by decide +kernel
theorem d_LW_law_402 : decode code 402 = .ok (.iconst 4, 1) := by decide +kernel
theorem d_LW_law_403 : decode code 403 = .ok (.iadd, 1) := by decide +kernel
theorem d_LW_law_404 : decode code 404 = .ok (.iaload, 1) := by decide +kernel
theorem d_LW_law_405 : decode code 405 = .ok (.aload_n 0, 1) := by decide +kernel
theorem d_LW_law_406 : decode code 406 = .ok (.iload 4, 2) := by decide +kernel
theorem d_LW_law_408 : decode code 408 = .ok (.iconst 5, 1) := by decide +kernel
theorem d_LW_law_409 : decode code 409 = .ok (.iadd, 1) := by decide +kernel
theorem d_LW_law_410 : decode code 410 = .ok (.iaload, 1) := by decide +kernel
theorem d_LW_law_411 : decode code 411 = .ok (.invokevirtual 99, 3) := by decide +kernel
theorem d_LW_law_414 : decode code 414 = .ok (.aload_n 2, 1) := by decide +kernel
theorem d_LW_law_415 : decode code 415 = .ok (.invokevirtual 84, 3) := by decide +kernel
theorem d_LW_law_418 : decode code 418 = .ok (.iload 5, 2) := by decide +kernel
theorem d_LW_law_420 : decode code 420 = .ok (.if_icmp .eq 5, 3) := by decide +kernel
theorem d_LW_law_423 : decode code 423 = .ok (.iconst 0, 1) := by decide +kernel
theorem d_LW_law_424 : decode code 424 = .ok (.ireturn, 1) := by decide +kernel
theorem d_LW_law_425 : decode code 425 = .ok (.goto 862, 3) := by decide +kernel
theorem d_LW_law_428 : decode code 428 = .ok (.aload_n 1, 1) := by decide +kernel
theorem d_LW_law_429 : decode code 429 = .ok (.aload_n 0, 1) := by decide +kernel
theorem d_LW_law_430 : decode code 430 = .ok (.iload 4, 2) := by decide +kernel
theorem d_LW_law_432 : decode code 432 = .ok (.iconst 1, 1) := by decide +kernel
theorem d_LW_law_433 : decode code 433 = .ok (.iadd, 1) := by decide +kernel
theorem d_LW_law_434 : decode code 434 = .ok (.iaload, 1) := by decide +kernel
theorem d_LW_law_435 : decode code 435 = .ok (.aload_n 0, 1) := by decide +kernel
theorem d_LW_law_436 : decode code 436 = .ok (.iload 4, 2) := by decide +kernel
theorem d_LW_law_438 : decode code 438 = .ok (.iconst 2, 1) := by decide +kernel
theorem d_LW_law_439 : decode code 439 = .ok (.iadd, 1) := by decide +kernel
theorem d_LW_law_440 : decode code 440 = .ok (.iaload, 1) := by decide +kernel
theorem d_LW_law_441 : decode code 441 = .ok (.aload_n 0, 1) := by decide +kernel
theorem d_LW_law_442 : decode code 442 = .ok (.iload 4, 2) := by decide +kernel
theorem d_LW_law_444 : decode code 444 = .ok (.iconst 3, 1) := by decide +kernel
theorem d_LW_law_445 : decode code 445 = .ok (.iadd, 1) := by decide +kernel
theorem d_LW_law_446 : decode code 446 = .ok (.iaload, 1) := by decide +kernel
theorem d_LW_law_447 : decode code 447 = .ok (.aload_n 0, 1) := by decide +kernel
theorem d_LW_law_448 : decode code 448 = .ok (.iload 4, 2) := by decide +kernel
theorem d_LW_law_450 : decode code 450 = .ok (.iconst 4, 1) := by decide +kernel
theorem d_LW_law_451 : decode code 451 = .ok (.iadd, 1) := by decide +kernel
theorem d_LW_law_452 : decode code 452 = .ok (.iaload, 1) := by decide +kernel
theorem d_LW_law_453 : decode code 453 = .ok (.invokestatic 100, 3) := by decide +kernel
theorem d_LW_law_456 : decode code 456 = .ok (.istore 5, 2) := by decide +kernel
theorem d_LW_law_458 : decode code 458 = .ok (.aload_n 2, 1) := by decide +kernel
theorem d_LW_law_459 : decode code 459 = .ok (.aload_n 0, 1) := by decide +kernel
theorem d_LW_law_460 : decode code 460 = .ok (.iload 4, 2) := by decide +kernel
theorem d_LW_law_462 : decode code 462 = .ok (.iconst 1, 1) := by decide +kernel
theorem d_LW_law_463 : decode code 463 = .ok (.iadd, 1) := by decide +kernel
theorem d_LW_law_464 : decode code 464 = .ok (.iaload, 1) := by decide +kernel
theorem d_LW_law_465 : decode code 465 = .ok (.aload_n 0, 1) := by decide +kernel
theorem d_LW_law_466 : decode code 466 = .ok (.iload 4, 2) := by decide +kernel
theorem d_LW_law_468 : decode code 468 = .ok (.iconst 2, 1) := by decide +kernel
theorem d_LW_law_469 : decode code 469 = .ok (.iadd, 1) := by decide +kernel
theorem d_LW_law_470 : decode code 470 = .ok (.iaload, 1) := by decide +kernel
theorem d_LW_law_471 : decode code 471 = .ok (.aload_n 0, 1) := by decide +kernel
theorem d_LW_law_472 : decode code 472 = .ok (.iload 4, 2) := by decide +kernel
theorem d_LW_law_474 : decode code 474 = .ok (.iconst 3, 1) := by decide +kernel
theorem d_LW_law_475 : decode code 475 = .ok (.iadd, 1) := by decide +kernel
theorem d_LW_law_476 : decode code 476 = .ok (.iaload, 1) := by decide +kernel
theorem d_LW_law_477 : decode code 477 = .ok (.aload_n 0, 1) := by decide +kernel
theorem d_LW_law_478 : decode code 478 = .ok (.iload 4, 2) := by decide +kernel
theorem d_LW_law_480 : decode code 480 = .ok (.iconst 4, 1) := by decide +kernel
theorem d_LW_law_481 : decode code 481 = .ok (.iadd, 1) := by decide +kernel
theorem d_LW_law_482 : decode code 482 = .ok (.iaload, 1) := by decide +kernel
theorem d_LW_law_483 : decode code 483 = .ok (.invokevirtual 102, 3) := by decide +kernel
theorem d_LW_law_486 : decode code 486 = .ok (.aload_n 2, 1) := by decide +kernel
theorem d_LW_law_487 : decode code 487 = .ok (.invokevirtual 84, 3) := by decide +kernel
theorem d_LW_law_490 : decode code 490 = .ok (.iload 5, 2) := by decide +kernel
theorem d_LW_law_492 : decode code 492 = .ok (.if_icmp .eq 5, 3) := by decide +kernel
theorem d_LW_law_495 : decode code 495 = .ok (.iconst 0, 1) := by decide +kernel
theorem d_LW_law_496 : decode code 496 = .ok (.ireturn, 1) := by decide +kernel
theorem d_LW_law_497 : decode code 497 = .ok (.goto 790, 3) := by decide +kernel
theorem d_LW_law_500 : decode code 500 = .ok (.aload_n 1, 1) := by decide +kernel
theorem d_LW_law_501 : decode code 501 = .ok (.aload_n 0, 1) := by decide +kernel
theorem d_LW_law_502 : decode code 502 = .ok (.iload 4, 2) := by decide +kernel
theorem d_LW_law_504 : decode code 504 = .ok (.iconst 1, 1) := by decide +kernel
theorem d_LW_law_505 : decode code 505 = .ok (.iadd, 1) := by decide +kernel
theorem d_LW_law_506 : decode code 506 = .ok (.iaload, 1) := by decide +kernel
theorem d_LW_law_507 : decode code 507 = .ok (.aload_n 0, 1) := by decide +kernel
theorem d_LW_law_508 : decode code 508 = .ok (.iload 4, 2) := by decide +kernel
theorem d_LW_law_510 : decode code 510 = .ok (.iconst 2, 1) := by decide +kernel
theorem d_LW_law_511 : decode code 511 = .ok (.iadd, 1) := by decide +kernel
theorem d_LW_law_512 : decode code 512 = .ok (.iaload, 1) := by decide +kernel
theorem d_LW_law_513 : decode code 513 = .ok (.aload_n 0, 1) := by decide +kernel
theorem d_LW_law_514 : decode code 514 = .ok (.iload 4, 2) := by decide +kernel
theorem d_LW_law_516 : decode code 516 = .ok (.iconst 3, 1) := by decide +kernel
theorem d_LW_law_517 : decode code 517 = .ok (.iadd, 1) := by decide +kernel
theorem d_LW_law_518 : decode code 518 = .ok (.iaload, 1) := by decide +kernel
theorem d_LW_law_519 : decode code 519 = .ok (.aload_n 0, 1) := by decide +kernel
theorem d_LW_law_520 : decode code 520 = .ok (.iload 4, 2) := by decide +kernel
theorem d_LW_law_522 : decode code 522 = .ok (.iconst 4, 1) := by decide +kernel
theorem d_LW_law_523 : decode code 523 = .ok (.iadd, 1) := by decide +kernel
theorem d_LW_law_524 : decode code 524 = .ok (.iaload, 1) := by decide +kernel
theorem d_LW_law_525 : decode code 525 = .ok (.aload_n 3, 1) := by decide +kernel
theorem d_LW_law_526 : decode code 526 = .ok (.invokestatic 103, 3) := by decide +kernel
theorem d_LW_law_529 : decode code 529 = .ok (.istore 5, 2) := by decide +kernel
theorem d_LW_law_531 : decode code 531 = .ok (.aload_n 2, 1) := by decide +kernel
theorem d_LW_law_532 : decode code 532 = .ok (.aload_n 0, 1) := by decide +kernel
theorem d_LW_law_533 : decode code 533 = .ok (.iload 4, 2) := by decide +kernel
theorem d_LW_law_535 : decode code 535 = .ok (.iconst 1, 1) := by decide +kernel
theorem d_LW_law_536 : decode code 536 = .ok (.iadd, 1) := by decide +kernel
theorem d_LW_law_537 : decode code 537 = .ok (.iaload, 1) := by decide +kernel
theorem d_LW_law_538 : decode code 538 = .ok (.aload_n 0, 1) := by decide +kernel
theorem d_LW_law_539 : decode code 539 = .ok (.iload 4, 2) := by decide +kernel
theorem d_LW_law_541 : decode code 541 = .ok (.iconst 2, 1) := by decide +kernel
theorem d_LW_law_542 : decode code 542 = .ok (.iadd, 1) := by decide +kernel
theorem d_LW_law_543 : decode code 543 = .ok (.iaload, 1) := by decide +kernel
theorem d_LW_law_544 : decode code 544 = .ok (.aload_n 0, 1) := by decide +kernel
theorem d_LW_law_545 : decode code 545 = .ok (.iload 4, 2) := by decide +kernel
theorem d_LW_law_547 : decode code 547 = .ok (.iconst 3, 1) := by decide +kernel
theorem d_LW_law_548 : decode code 548 = .ok (.iadd, 1) := by decide +kernel
theorem d_LW_law_549 : decode code 549 = .ok (.iaload, 1) := by decide +kernel
theorem d_LW_law_550 : decode code 550 = .ok (.aload_n 0, 1) := by decide +kernel
theorem d_LW_law_551 : decode code 551 = .ok (.iload 4, 2) := by decide +kernel
theorem d_LW_law_553 : decode code 553 = .ok (.iconst 4, 1) := by decide +kernel
theorem d_LW_law_554 : decode code 554 = .ok (.iadd, 1) := by decide +kernel
theorem d_LW_law_555 : decode code 555 = .ok (.iaload, 1) := by decide +kernel
theorem d_LW_law_556 : decode code 556 = .ok (.invokevirtual 106, 3) := by decide +kernel
theorem d_LW_law_559 : decode code 559 = .ok (.istore 6, 2) := by decide +kernel
theorem d_LW_law_561 : decode code 561 = .ok (.aload_n 2, 1) := by decide +kernel
theorem d_LW_law_562 : decode code 562 = .ok (.invokevirtual 84, 3) := by decide +kernel
theorem d_LW_law_565 : decode code 565 = .ok (.iload 5, 2) := by decide +kernel
theorem d_LW_law_567 : decode code 567 = .ok (.if_icmp .eq 5, 3) := by decide +kernel
theorem d_LW_law_570 : decode code 570 = .ok (.iconst 0, 1) := by decide +kernel
theorem d_LW_law_571 : decode code 571 = .ok (.ireturn, 1) := by decide +kernel
theorem d_LW_law_572 : decode code 572 = .ok (.iload 5, 2) := by decide +kernel
theorem d_LW_law_574 : decode code 574 = .ok (.ifCond .ne 15, 3) := by decide +kernel
theorem d_LW_law_577 : decode code 577 = .ok (.aload_n 3, 1) := by decide +kernel
theorem d_LW_law_578 : decode code 578 = .ok (.iconst 0, 1) := by decide +kernel
theorem d_LW_law_579 : decode code 579 = .ok (.laload, 1) := by decide +kernel
theorem d_LW_law_580 : decode code 580 = .ok (.iload 6, 2) := by decide +kernel
theorem d_LW_law_582 : decode code 582 = .ok (.i2l, 1) := by decide +kernel
theorem d_LW_law_583 : decode code 583 = .ok (.lcmp, 1) := by decide +kernel
theorem d_LW_law_584 : decode code 584 = .ok (.ifCond .eq 5, 3) := by decide +kernel
theorem d_LW_law_587 : decode code 587 = .ok (.iconst 0, 1) := by decide +kernel
theorem d_LW_law_588 : decode code 588 = .ok (.ireturn, 1) := by decide +kernel
theorem d_LW_law_589 : decode code 589 = .ok (.goto 698, 3) := by decide +kernel
theorem d_LW_law_592 : decode code 592 = .ok (.aload_n 1, 1) := by decide +kernel
theorem d_LW_law_593 : decode code 593 = .ok (.aload_n 0, 1) := by decide +kernel
theorem d_LW_law_594 : decode code 594 = .ok (.iload 4, 2) := by decide +kernel
theorem d_LW_law_596 : decode code 596 = .ok (.iconst 1, 1) := by decide +kernel
theorem d_LW_law_597 : decode code 597 = .ok (.iadd, 1) := by decide +kernel
theorem d_LW_law_598 : decode code 598 = .ok (.iaload, 1) := by decide +kernel
theorem d_LW_law_599 : decode code 599 = .ok (.invokevirtual 107, 3) := by decide +kernel
theorem d_LW_law_602 : decode code 602 = .ok (.aload_n 2, 1) := by decide +kernel
theorem d_LW_law_603 : decode code 603 = .ok (.aload_n 0, 1) := by decide +kernel
theorem d_LW_law_604 : decode code 604 = .ok (.iload 4, 2) := by decide +kernel
theorem d_LW_law_606 : decode code 606 = .ok (.iconst 1, 1) := by decide +kernel
theorem d_LW_law_607 : decode code 607 = .ok (.iadd, 1) := by decide +kernel
theorem d_LW_law_608 : decode code 608 = .ok (.iaload, 1) := by decide +kernel
theorem d_LW_law_609 : decode code 609 = .ok (.invokevirtual 110, 3) := by decide +kernel
theorem d_LW_law_612 : decode code 612 = .ok (.if_icmp .eq 675, 3) := by decide +kernel
theorem d_LW_law_615 : decode code 615 = .ok (.iconst 0, 1) := by decide +kernel
theorem d_LW_law_616 : decode code 616 = .ok (.ireturn, 1) := by decide +kernel
theorem d_LW_law_617 : decode code 617 = .ok (.aload_n 1, 1) := by decide +kernel
theorem d_LW_law_618 : decode code 618 = .ok (.invokevirtual 111, 3) := by decide +kernel
theorem d_LW_law_621 : decode code 621 = .ok (.aload_n 2, 1) := by decide +kernel
theorem d_LW_law_622 : decode code 622 = .ok (.invokevirtual 114, 3) := by decide +kernel
theorem d_LW_law_625 : decode code 625 = .ok (.if_icmp .eq 662, 3) := by decide +kernel
theorem d_LW_law_628 : decode code 628 = .ok (.iconst 0, 1) := by decide +kernel
theorem d_LW_law_629 : decode code 629 = .ok (.ireturn, 1) := by decide +kernel
theorem d_LW_law_630 : decode code 630 = .ok (.aload_n 1, 1) := by decide +kernel
theorem d_LW_law_631 : decode code 631 = .ok (.aload_n 0, 1) := by decide +kernel
theorem d_LW_law_632 : decode code 632 = .ok (.iload 4, 2) := by decide +kernel
theorem d_LW_law_634 : decode code 634 = .ok (.iconst 1, 1) := by decide +kernel
theorem d_LW_law_635 : decode code 635 = .ok (.iadd, 1) := by decide +kernel
theorem d_LW_law_636 : decode code 636 = .ok (.iaload, 1) := by decide +kernel
theorem d_LW_law_637 : decode code 637 = .ok (.aload_n 0, 1) := by decide +kernel
theorem d_LW_law_638 : decode code 638 = .ok (.iload 4, 2) := by decide +kernel
theorem d_LW_law_640 : decode code 640 = .ok (.iconst 2, 1) := by decide +kernel
theorem d_LW_law_641 : decode code 641 = .ok (.iadd, 1) := by decide +kernel
theorem d_LW_law_642 : decode code 642 = .ok (.iaload, 1) := by decide +kernel
theorem d_LW_law_643 : decode code 643 = .ok (.invokestatic 115, 3) := by decide +kernel
theorem d_LW_law_646 : decode code 646 = .ok (.istore 5, 2) := by decide +kernel
theorem d_LW_law_648 : decode code 648 = .ok (.aload_n 2, 1) := by decide +kernel
theorem d_LW_law_649 : decode code 649 = .ok (.aload_n 0, 1) := by decide +kernel
theorem d_LW_law_650 : decode code 650 = .ok (.iload 4, 2) := by decide +kernel
theorem d_LW_law_652 : decode code 652 = .ok (.iconst 1, 1) := by decide +kernel
theorem d_LW_law_653 : decode code 653 = .ok (.iadd, 1) := by decide +kernel
theorem d_LW_law_654 : decode code 654 = .ok (.iaload, 1) := by decide +kernel
theorem d_LW_law_655 : decode code 655 = .ok (.aload_n 0, 1) := by decide +kernel
theorem d_LW_law_656 : decode code 656 = .ok (.iload 4, 2) := by decide +kernel
theorem d_LW_law_658 : decode code 658 = .ok (.iconst 2, 1) := by decide +kernel
theorem d_LW_law_659 : decode code 659 = .ok (.iadd, 1) := by decide +kernel
theorem d_LW_law_660 : decode code 660 = .ok (.iaload, 1) := by decide +kernel
theorem d_LW_law_661 : decode code 661 = .ok (.invokevirtual 118, 3) := by decide +kernel
theorem d_LW_law_664 : decode code 664 = .ok (.aload_n 2, 1) := by decide +kernel
theorem d_LW_law_665 : decode code 665 = .ok (.invokevirtual 84, 3) := by decide +kernel
theorem d_LW_law_668 : decode code 668 = .ok (.iload 5, 2) := by decide +kernel
theorem d_LW_law_670 : decode code 670 = .ok (.if_icmp .eq 5, 3) := by decide +kernel
theorem d_LW_law_673 : decode code 673 = .ok (.iconst 0, 1) := by decide +kernel
theorem d_LW_law_674 : decode code 674 = .ok (.ireturn, 1) := by decide +kernel
theorem d_LW_law_675 : decode code 675 = .ok (.goto 612, 3) := by decide +kernel
theorem d_LW_law_678 : decode code 678 = .ok (.aload_n 1, 1) := by decide +kernel
theorem d_LW_law_679 : decode code 679 = .ok (.aload_n 0, 1) := by decide +kernel
theorem d_LW_law_680 : decode code 680 = .ok (.iload 4, 2) := by decide +kernel
theorem d_LW_law_682 : decode code 682 = .ok (.iconst 1, 1) := by decide +kernel
theorem d_LW_law_683 : decode code 683 = .ok (.iadd, 1) := by decide +kernel
theorem d_LW_law_684 : decode code 684 = .ok (.iaload, 1) := by decide +kernel
theorem d_LW_law_685 : decode code 685 = .ok (.aload_n 0, 1) := by decide +kernel
theorem d_LW_law_686 : decode code 686 = .ok (.iload 4, 2) := by decide +kernel
theorem d_LW_law_688 : decode code 688 = .ok (.iconst 2, 1) := by decide +kernel
theorem d_LW_law_689 : decode code 689 = .ok (.iadd, 1) := by decide +kernel
theorem d_LW_law_690 : decode code 690 = .ok (.iaload, 1) := by decide +kernel
theorem d_LW_law_691 : decode code 691 = .ok (.aload_n 0, 1) := by decide +kernel
theorem d_LW_law_692 : decode code 692 = .ok (.iload 4, 2) := by decide +kernel
theorem d_LW_law_694 : decode code 694 = .ok (.iconst 3, 1) := by decide +kernel
theorem d_LW_law_695 : decode code 695 = .ok (.iadd, 1) := by decide +kernel
theorem d_LW_law_696 : decode code 696 = .ok (.iaload, 1) := by decide +kernel
theorem d_LW_law_697 : decode code 697 = .ok (.aload_n 0, 1) := by decide +kernel
theorem d_LW_law_698 : decode code 698 = .ok (.iload 4, 2) := by decide +kernel
theorem d_LW_law_700 : decode code 700 = .ok (.iconst 4, 1) := by decide +kernel
theorem d_LW_law_701 : decode code 701 = .ok (.iadd, 1) := by decide +kernel
theorem d_LW_law_702 : decode code 702 = .ok (.iaload, 1) := by decide +kernel
theorem d_LW_law_703 : decode code 703 = .ok (.invokestatic 119, 3) := by decide +kernel
theorem d_LW_law_706 : decode code 706 = .ok (.istore 5, 2) := by decide +kernel
theorem d_LW_law_708 : decode code 708 = .ok (.aload_n 2, 1) := by decide +kernel
theorem d_LW_law_709 : decode code 709 = .ok (.aload_n 0, 1) := by decide +kernel
theorem d_LW_law_710 : decode code 710 = .ok (.iload 4, 2) := by decide +kernel
theorem d_LW_law_712 : decode code 712 = .ok (.iconst 1, 1) := by decide +kernel
theorem d_LW_law_713 : decode code 713 = .ok (.iadd, 1) := by decide +kernel
theorem d_LW_law_714 : decode code 714 = .ok (.iaload, 1) := by decide +kernel
theorem d_LW_law_715 : decode code 715 = .ok (.aload_n 0, 1) := by decide +kernel
theorem d_LW_law_716 : decode code 716 = .ok (.iload 4, 2) := by decide +kernel
theorem d_LW_law_718 : decode code 718 = .ok (.iconst 2, 1) := by decide +kernel
theorem d_LW_law_719 : decode code 719 = .ok (.iadd, 1) := by decide +kernel
theorem d_LW_law_720 : decode code 720 = .ok (.iaload, 1) := by decide +kernel
theorem d_LW_law_721 : decode code 721 = .ok (.aload_n 0, 1) := by decide +kernel
theorem d_LW_law_722 : decode code 722 = .ok (.iload 4, 2) := by decide +kernel
theorem d_LW_law_724 : decode code 724 = .ok (.iconst 3, 1) := by decide +kernel
theorem d_LW_law_725 : decode code 725 = .ok (.iadd, 1) := by decide +kernel
theorem d_LW_law_726 : decode code 726 = .ok (.iaload, 1) := by decide +kernel
theorem d_LW_law_727 : decode code 727 = .ok (.aload_n 0, 1) := by decide +kernel
theorem d_LW_law_728 : decode code 728 = .ok (.iload 4, 2) := by decide +kernel
theorem d_LW_law_730 : decode code 730 = .ok (.iconst 4, 1) := by decide +kernel
theorem d_LW_law_731 : decode code 731 = .ok (.iadd, 1) := by decide +kernel
theorem d_LW_law_732 : decode code 732 = .ok (.iaload, 1) := by decide +kernel
theorem d_LW_law_733 : decode code 733 = .ok (.invokevirtual 121, 3) := by decide +kernel
theorem d_LW_law_736 : decode code 736 = .ok (.aload_n 2, 1) := by decide +kernel
theorem d_LW_law_737 : decode code 737 = .ok (.invokevirtual 84, 3) := by decide +kernel
theorem d_LW_law_740 : decode code 740 = .ok (.iload 5, 2) := by decide +kernel
theorem d_LW_law_742 : decode code 742 = .ok (.if_icmp .eq 5, 3) := by decide +kernel
theorem d_LW_law_745 : decode code 745 = .ok (.iconst 0, 1) := by decide +kernel
theorem d_LW_law_746 : decode code 746 = .ok (.ireturn, 1) := by decide +kernel
theorem d_LW_law_747 : decode code 747 = .ok (.goto 540, 3) := by decide +kernel
theorem d_LW_law_750 : decode code 750 = .ok (.aload_n 1, 1) := by decide +kernel
theorem d_LW_law_751 : decode code 751 = .ok (.aload_n 0, 1) := by decide +kernel
theorem d_LW_law_752 : decode code 752 = .ok (.iload 4, 2) := by decide +kernel
theorem d_LW_law_754 : decode code 754 = .ok (.iconst 1, 1) := by decide +kernel
theorem d_LW_law_755 : decode code 755 = .ok (.iadd, 1) := by decide +kernel
theorem d_LW_law_756 : decode code 756 = .ok (.iaload, 1) := by decide +kernel
theorem d_LW_law_757 : decode code 757 = .ok (.aload_n 0, 1) := by decide +kernel
theorem d_LW_law_758 : decode code 758 = .ok (.iload 4, 2) := by decide +kernel
theorem d_LW_law_760 : decode code 760 = .ok (.iconst 2, 1) := by decide +kernel
theorem d_LW_law_761 : decode code 761 = .ok (.iadd, 1) := by decide +kernel
theorem d_LW_law_762 : decode code 762 = .ok (.iaload, 1) := by decide +kernel
theorem d_LW_law_763 : decode code 763 = .ok (.aload_n 0, 1) := by decide +kernel
theorem d_LW_law_764 : decode code 764 = .ok (.iload 4, 2) := by decide +kernel
theorem d_LW_law_766 : decode code 766 = .ok (.iconst 3, 1) := by decide +kernel
theorem d_LW_law_767 : decode code 767 = .ok (.iadd, 1) := by decide +kernel
theorem d_LW_law_768 : decode code 768 = .ok (.iaload, 1) := by decide +kernel
theorem d_LW_law_769 : decode code 769 = .ok (.aload_n 3, 1) := by decide +kernel
theorem d_LW_law_770 : decode code 770 = .ok (.invokestatic 122, 3) := by decide +kernel
theorem d_LW_law_773 : decode code 773 = .ok (.istore 5, 2) := by decide +kernel
theorem d_LW_law_775 : decode code 775 = .ok (.aload_n 2, 1) := by decide +kernel
theorem d_LW_law_776 : decode code 776 = .ok (.aload_n 0, 1) := by decide +kernel
theorem d_LW_law_777 : decode code 777 = .ok (.iload 4, 2) := by decide +kernel
theorem d_LW_law_779 : decode code 779 = .ok (.iconst 1, 1) := by decide +kernel
theorem d_LW_law_780 : decode code 780 = .ok (.iadd, 1) := by decide +kernel
theorem d_LW_law_781 : decode code 781 = .ok (.iaload, 1) := by decide +kernel
theorem d_LW_law_782 : decode code 782 = .ok (.aload_n 0, 1) := by decide +kernel
theorem d_LW_law_783 : decode code 783 = .ok (.iload 4, 2) := by decide +kernel
theorem d_LW_law_785 : decode code 785 = .ok (.iconst 2, 1) := by decide +kernel
theorem d_LW_law_786 : decode code 786 = .ok (.iadd, 1) := by decide +kernel
theorem d_LW_law_787 : decode code 787 = .ok (.iaload, 1) := by decide +kernel
theorem d_LW_law_788 : decode code 788 = .ok (.aload_n 0, 1) := by decide +kernel
theorem d_LW_law_789 : decode code 789 = .ok (.iload 4, 2) := by decide +kernel
theorem d_LW_law_791 : decode code 791 = .ok (.iconst 3, 1) := by decide +kernel
theorem d_LW_law_792 : decode code 792 = .ok (.iadd, 1) := by decide +kernel
theorem d_LW_law_793 : decode code 793 = .ok (.iaload, 1) := by decide +kernel
theorem d_LW_law_794 : decode code 794 = .ok (.invokevirtual 124, 3) := by decide +kernel
theorem d_LW_law_797 : decode code 797 = .ok (.istore 6, 2) := by decide +kernel
theorem d_LW_law_799 : decode code 799 = .ok (.aload_n 2, 1) := by decide +kernel
theorem d_LW_law_800 : decode code 800 = .ok (.invokevirtual 84, 3) := by decide +kernel
theorem d_LW_law_803 : decode code 803 = .ok (.iload 5, 2) := by decide +kernel
theorem d_LW_law_805 : decode code 805 = .ok (.if_icmp .eq 5, 3) := by decide +kernel
theorem d_LW_law_808 : decode code 808 = .ok (.iconst 0, 1) := by decide +kernel
theorem d_LW_law_809 : decode code 809 = .ok (.ireturn, 1) := by decide +kernel
theorem d_LW_law_810 : decode code 810 = .ok (.iload 5, 2) := by decide +kernel
theorem d_LW_law_812 : decode code 812 = .ok (.ifCond .ne 15, 3) := by decide +kernel
theorem d_LW_law_815 : decode code 815 = .ok (.aload_n 3, 1) := by decide +kernel
theorem d_LW_law_816 : decode code 816 = .ok (.iconst 0, 1) := by decide +kernel
theorem d_LW_law_817 : decode code 817 = .ok (.laload, 1) := by decide +kernel
theorem d_LW_law_818 : decode code 818 = .ok (.iload 6, 2) := by decide +kernel
theorem d_LW_law_820 : decode code 820 = .ok (.i2l, 1) := by decide +kernel
theorem d_LW_law_821 : decode code 821 = .ok (.lcmp, 1) := by decide +kernel
theorem d_LW_law_822 : decode code 822 = .ok (.ifCond .eq 5, 3) := by decide +kernel
theorem d_LW_law_825 : decode code 825 = .ok (.iconst 0, 1) := by decide +kernel
theorem d_LW_law_826 : decode code 826 = .ok (.ireturn, 1) := by decide +kernel
theorem d_LW_law_827 : decode code 827 = .ok (.goto 460, 3) := by decide +kernel
theorem d_LW_law_830 : decode code 830 = .ok (.aload_n 1, 1) := by decide +kernel
theorem d_LW_law_831 : decode code 831 = .ok (.aload_n 0, 1) := by decide +kernel
theorem d_LW_law_832 : decode code 832 = .ok (.iload 4, 2) := by decide +kernel
theorem d_LW_law_834 : decode code 834 = .ok (.iconst 1, 1) := by decide +kernel
theorem d_LW_law_835 : decode code 835 = .ok (.iadd, 1) := by decide +kernel
theorem d_LW_law_836 : decode code 836 = .ok (.iaload, 1) := by decide +kernel
theorem d_LW_law_837 : decode code 837 = .ok (.aload_n 3, 1) := by decide +kernel
theorem d_LW_law_838 : decode code 838 = .ok (.invokestatic 125, 3) := by decide +kernel
theorem d_LW_law_841 : decode code 841 = .ok (.istore 5, 2) := by decide +kernel
theorem d_LW_law_843 : decode code 843 = .ok (.aload_n 2, 1) := by decide +kernel
theorem d_LW_law_844 : decode code 844 = .ok (.aload_n 0, 1) := by decide +kernel
theorem d_LW_law_845 : decode code 845 = .ok (.iload 4, 2) := by decide +kernel
theorem d_LW_law_847 : decode code 847 = .ok (.iconst 1, 1) := by decide +kernel
theorem d_LW_law_848 : decode code 848 = .ok (.iadd, 1) := by decide +kernel
theorem d_LW_law_849 : decode code 849 = .ok (.iaload, 1) := by decide +kernel
theorem d_LW_law_850 : decode code 850 = .ok (.invokevirtual 128, 3) := by decide +kernel
theorem d_LW_law_853 : decode code 853 = .ok (.istore 6, 2) := by decide +kernel
theorem d_LW_law_855 : decode code 855 = .ok (.aload_n 2, 1) := by decide +kernel
theorem d_LW_law_856 : decode code 856 = .ok (.invokevirtual 84, 3) := by decide +kernel
theorem d_LW_law_859 : decode code 859 = .ok (.iload 5, 2) := by decide +kernel
theorem d_LW_law_861 : decode code 861 = .ok (.if_icmp .eq 5, 3) := by decide +kernel
theorem d_LW_law_864 : decode code 864 = .ok (.iconst 0, 1) := by decide +kernel
theorem d_LW_law_865 : decode code 865 = .ok (.ireturn, 1) := by decide +kernel
theorem d_LW_law_866 : decode code 866 = .ok (.iload 5, 2) := by decide +kernel
theorem d_LW_law_868 : decode code 868 = .ok (.ifCond .ne 15, 3) := by decide +kernel
theorem d_LW_law_871 : decode code 871 = .ok (.aload_n 3, 1) := by decide +kernel
theorem d_LW_law_872 : decode code 872 = .ok (.iconst 0, 1) := by decide +kernel
theorem d_LW_law_873 : decode code 873 = .ok (.laload, 1) := by decide +kernel
theorem d_LW_law_874 : decode code 874 = .ok (.iload 6, 2) := by decide +kernel
theorem d_LW_law_876 : decode code 876 = .ok (.i2l, 1) := by decide +kernel
theorem d_LW_law_877 : decode code 877 = .ok (.lcmp, 1) := by decide +kernel
theorem d_LW_law_878 : decode code 878 = .ok (.ifCond .eq 5, 3) := by decide +kernel
theorem d_LW_law_881 : decode code 881 = .ok (.iconst 0, 1) := by decide +kernel
theorem d_LW_law_882 : decode code 882 = .ok (.ireturn, 1) := by decide +kernel
theorem d_LW_law_883 : decode code 883 = .ok (.goto 404, 3) := by decide +kernel
theorem d_LW_law_886 : decode code 886 = .ok (.aload_n 1, 1) := by decide +kernel
theorem d_LW_law_887 : decode code 887 = .ok (.aload_n 0, 1) := by decide +kernel
theorem d_LW_law_888 : decode code 888 = .ok (.iload 4, 2) := by decide +kernel
theorem d_LW_law_890 : decode code 890 = .ok (.iconst 1, 1) := by decide +kernel
theorem d_LW_law_891 : decode code 891 = .ok (.iadd, 1) := by decide +kernel
theorem d_LW_law_892 : decode code 892 = .ok (.iaload, 1) := by decide +kernel
theorem d_LW_law_893 : decode code 893 = .ok (.aload_n 0, 1) := by decide +kernel
theorem d_LW_law_894 : decode code 894 = .ok (.iload 4, 2) := by decide +kernel
theorem d_LW_law_896 : decode code 896 = .ok (.iconst 2, 1) := by decide +kernel
theorem d_LW_law_897 : decode code 897 = .ok (.iadd, 1) := by decide +kernel
theorem d_LW_law_898 : decode code 898 = .ok (.iaload, 1) := by decide +kernel
theorem d_LW_law_899 : decode code 899 = .ok (.aload_n 0, 1) := by decide +kernel
theorem d_LW_law_900 : decode code 900 = .ok (.iload 4, 2) := by decide +kernel
theorem d_LW_law_902 : decode code 902 = .ok (.iconst 3, 1) := by decide +kernel
theorem d_LW_law_903 : decode code 903 = .ok (.iadd, 1) := by decide +kernel
theorem d_LW_law_904 : decode code 904 = .ok (.iaload, 1) := by decide +kernel
theorem d_LW_law_905 : decode code 905 = .ok (.aload_n 3, 1) := by decide +kernel
theorem d_LW_law_906 : decode code 906 = .ok (.invokestatic 129, 3) := by decide +kernel
theorem d_LW_law_909 : decode code 909 = .ok (.istore 5, 2) := by decide +kernel
theorem d_LW_law_911 : decode code 911 = .ok (.aload_n 2, 1) := by decide +kernel
theorem d_LW_law_912 : decode code 912 = .ok (.aload_n 0, 1) := by decide +kernel
theorem d_LW_law_913 : decode code 913 = .ok (.iload 4, 2) := by decide +kernel
theorem d_LW_law_915 : decode code 915 = .ok (.iconst 1, 1) := by decide +kernel
theorem d_LW_law_916 : decode code 916 = .ok (.iadd, 1) := by decide +kernel
theorem d_LW_law_917 : decode code 917 = .ok (.iaload, 1) := by decide +kernel
theorem d_LW_law_918 : decode code 918 = .ok (.aload_n 0, 1) := by decide +kernel
theorem d_LW_law_919 : decode code 919 = .ok (.iload 4, 2) := by decide +kernel
theorem d_LW_law_921 : decode code 921 = .ok (.iconst 2, 1) := by decide +kernel
theorem d_LW_law_922 : decode code 922 = .ok (.iadd, 1) := by decide +kernel
theorem d_LW_law_923 : decode code 923 = .ok (.iaload, 1) := by decide +kernel
theorem d_LW_law_924 : decode code 924 = .ok (.aload_n 0, 1) := by decide +kernel
theorem d_LW_law_925 : decode code 925 = .ok (.iload 4, 2) := by decide +kernel
theorem d_LW_law_927 : decode code 927 = .ok (.iconst 3, 1) := by decide +kernel
theorem d_LW_law_928 : decode code 928 = .ok (.iadd, 1) := by decide +kernel
theorem d_LW_law_929 : decode code 929 = .ok (.iaload, 1) := by decide +kernel
theorem d_LW_law_930 : decode code 930 = .ok (.invokevirtual 131, 3) := by decide +kernel
theorem d_LW_law_933 : decode code 933 = .ok (.istore 6, 2) := by decide +kernel
theorem d_LW_law_935 : decode code 935 = .ok (.aload_n 2, 1) := by decide +kernel
theorem d_LW_law_936 : decode code 936 = .ok (.invokevirtual 84, 3) := by decide +kernel
theorem d_LW_law_939 : decode code 939 = .ok (.iload 5, 2) := by decide +kernel
theorem d_LW_law_941 : decode code 941 = .ok (.if_icmp .eq 5, 3) := by decide +kernel
theorem d_LW_law_944 : decode code 944 = .ok (.iconst 0, 1) := by decide +kernel
theorem d_LW_law_945 : decode code 945 = .ok (.ireturn, 1) := by decide +kernel
theorem d_LW_law_946 : decode code 946 = .ok (.iload 5, 2) := by decide +kernel
theorem d_LW_law_948 : decode code 948 = .ok (.ifCond .ne 15, 3) := by decide +kernel
theorem d_LW_law_951 : decode code 951 = .ok (.aload_n 3, 1) := by decide +kernel
theorem d_LW_law_952 : decode code 952 = .ok (.iconst 0, 1) := by decide +kernel
theorem d_LW_law_953 : decode code 953 = .ok (.laload, 1) := by decide +kernel
theorem d_LW_law_954 : decode code 954 = .ok (.iload 6, 2) := by decide +kernel
theorem d_LW_law_956 : decode code 956 = .ok (.i2l, 1) := by decide +kernel
theorem d_LW_law_957 : decode code 957 = .ok (.lcmp, 1) := by decide +kernel
theorem d_LW_law_958 : decode code 958 = .ok (.ifCond .eq 5, 3) := by decide +kernel
theorem d_LW_law_961 : decode code 961 = .ok (.iconst 0, 1) := by decide +kernel
theorem d_LW_law_962 : decode code 962 = .ok (.ireturn, 1) := by decide +kernel
theorem d_LW_law_963 : decode code 963 = .ok (.goto 324, 3) := by decide +kernel
theorem d_LW_law_966 : decode code 966 = .ok (.aload_n 1, 1) := by decide +kernel
theorem d_LW_law_967 : decode code 967 = .ok (.aload_n 0, 1) := by decide +kernel
theorem d_LW_law_968 : decode code 968 = .ok (.iload 4, 2) := by decide +kernel
theorem d_LW_law_970 : decode code 970 = .ok (.iconst 1, 1) := by decide +kernel
theorem d_LW_law_971 : decode code 971 = .ok (.iadd, 1) := by decide +kernel
theorem d_LW_law_972 : decode code 972 = .ok (.iaload, 1) := by decide +kernel
theorem d_LW_law_973 : decode code 973 = .ok (.invokestatic 132, 3) := by decide +kernel
theorem d_LW_law_976 : decode code 976 = .ok (.istore 5, 2) := by decide +kernel
theorem d_LW_law_978 : decode code 978 = .ok (.aload_n 2, 1) := by decide +kernel
theorem d_LW_law_979 : decode code 979 = .ok (.aload_n 0, 1) := by decide +kernel
theorem d_LW_law_980 : decode code 980 = .ok (.iload 4, 2) := by decide +kernel
theorem d_LW_law_982 : decode code 982 = .ok (.iconst 1, 1) := by decide +kernel
theorem d_LW_law_983 : decode code 983 = .ok (.iadd, 1) := by decide +kernel
theorem d_LW_law_984 : decode code 984 = .ok (.iaload, 1) := by decide +kernel
theorem d_LW_law_985 : decode code 985 = .ok (.invokevirtual 135, 3) := by decide +kernel
theorem d_LW_law_988 : decode code 988 = .ok (.aload_n 2, 1) := by decide +kernel
theorem d_LW_law_989 : decode code 989 = .ok (.invokevirtual 84, 3) := by decide +kernel
theorem d_LW_law_992 : decode code 992 = .ok (.iload 5, 2) := by decide +kernel
theorem d_LW_law_994 : decode code 994 = .ok (.if_icmp .eq 5, 3) := by decide +kernel
theorem d_LW_law_997 : decode code 997 = .ok (.iconst 0, 1) := by decide +kernel
theorem d_LW_law_998 : decode code 998 = .ok (.ireturn, 1) := by decide +kernel
theorem d_LW_law_999 : decode code 999 = .ok (.goto 288, 3) := by decide +kernel
theorem d_LW_law_1002 : decode code 1002 = .ok (.aload_n 1, 1) := by decide +kernel
theorem d_LW_law_1003 : decode code 1003 = .ok (.aload_n 0, 1) := by decide +kernel
theorem d_LW_law_1004 : decode code 1004 = .ok (.iload 4, 2) := by decide +kernel
theorem d_LW_law_1006 : decode code 1006 = .ok (.iconst 1, 1) := by decide +kernel
theorem d_LW_law_1007 : decode code 1007 = .ok (.iadd, 1) := by decide +kernel
theorem d_LW_law_1008 : decode code 1008 = .ok (.iaload, 1) := by decide +kernel
theorem d_LW_law_1009 : decode code 1009 = .ok (.aload_n 0, 1) := by decide +kernel
theorem d_LW_law_1010 : decode code 1010 = .ok (.iload 4, 2) := by decide +kernel
theorem d_LW_law_1012 : decode code 1012 = .ok (.iconst 2, 1) := by decide +kernel
theorem d_LW_law_1013 : decode code 1013 = .ok (.iadd, 1) := by decide +kernel
theorem d_LW_law_1014 : decode code 1014 = .ok (.iaload, 1) := by decide +kernel
theorem d_LW_law_1015 : decode code 1015 = .ok (.aload_n 3, 1) := by decide +kernel
theorem d_LW_law_1016 : decode code 1016 = .ok (.invokestatic 136, 3) := by decide +kernel
theorem d_LW_law_1019 : decode code 1019 = .ok (.istore 5, 2) := by decide +kernel
theorem d_LW_law_1021 : decode code 1021 = .ok (.aload_n 2, 1) := by decide +kernel
theorem d_LW_law_1022 : decode code 1022 = .ok (.aload_n 0, 1) := by decide +kernel
theorem d_LW_law_1023 : decode code 1023 = .ok (.iload 4, 2) := by decide +kernel
theorem d_LW_law_1025 : decode code 1025 = .ok (.iconst 1, 1) := by decide +kernel
theorem d_LW_law_1026 : decode code 1026 = .ok (.iadd, 1) := by decide +kernel
theorem d_LW_law_1027 : decode code 1027 = .ok (.iaload, 1) := by decide +kernel
theorem d_LW_law_1028 : decode code 1028 = .ok (.aload_n 0, 1) := by decide +kernel
theorem d_LW_law_1029 : decode code 1029 = .ok (.iload 4, 2) := by decide +kernel
theorem d_LW_law_1031 : decode code 1031 = .ok (.iconst 2, 1) := by decide +kernel
theorem d_LW_law_1032 : decode code 1032 = .ok (.iadd, 1) := by decide +kernel
theorem d_LW_law_1033 : decode code 1033 = .ok (.iaload, 1) := by decide +kernel
theorem d_LW_law_1034 : decode code 1034 = .ok (.invokevirtual 139, 3) := by decide +kernel
theorem d_LW_law_1037 : decode code 1037 = .ok (.istore 6, 2) := by decide +kernel
theorem d_LW_law_1039 : decode code 1039 = .ok (.aload_n 2, 1) := by decide +kernel
theorem d_LW_law_1040 : decode code 1040 = .ok (.invokevirtual 84, 3) := by decide +kernel
theorem d_LW_law_1043 : decode code 1043 = .ok (.iload 5, 2) := by decide +kernel
theorem d_LW_law_1045 : decode code 1045 = .ok (.if_icmp .eq 5, 3) := by decide +kernel
theorem d_LW_law_1048 : decode code 1048 = .ok (.iconst 0, 1) := by decide +kernel
theorem d_LW_law_1049 : decode code 1049 = .ok (.ireturn, 1) := by decide +kernel
theorem d_LW_law_1050 : decode code 1050 = .ok (.iload 5, 2) := by decide +kernel
theorem d_LW_law_1052 : decode code 1052 = .ok (.ifCond .ne 15, 3) := by decide +kernel
theorem d_LW_law_1055 : decode code 1055 = .ok (.aload_n 3, 1) := by decide +kernel
theorem d_LW_law_1056 : decode code 1056 = .ok (.iconst 0, 1) := by decide +kernel
theorem d_LW_law_1057 : decode code 1057 = .ok (.laload, 1) := by decide +kernel
theorem d_LW_law_1058 : decode code 1058 = .ok (.iload 6, 2) := by decide +kernel
theorem d_LW_law_1060 : decode code 1060 = .ok (.i2l, 1) := by decide +kernel
theorem d_LW_law_1061 : decode code 1061 = .ok (.lcmp, 1) := by decide +kernel
theorem d_LW_law_1062 : decode code 1062 = .ok (.ifCond .eq 5, 3) := by decide +kernel
theorem d_LW_law_1065 : decode code 1065 = .ok (.iconst 0, 1) := by decide +kernel
theorem d_LW_law_1066 : decode code 1066 = .ok (.ireturn, 1) := by decide +kernel
theorem d_LW_law_1067 : decode code 1067 = .ok (.goto 220, 3) := by decide +kernel
theorem d_LW_law_1070 : decode code 1070 = .ok (.aload_n 1, 1) := by decide +kernel
theorem d_LW_law_1071 : decode code 1071 = .ok (.aload_n 0, 1) := by decide +kernel
theorem d_LW_law_1072 : decode code 1072 = .ok (.iload 4, 2) := by decide +kernel
theorem d_LW_law_1074 : decode code 1074 = .ok (.iconst 1, 1) := by decide +kernel
theorem d_LW_law_1075 : decode code 1075 = .ok (.iadd, 1) := by decide +kernel
theorem d_LW_law_1076 : decode code 1076 = .ok (.iaload, 1) := by decide +kernel
theorem d_LW_law_1077 : decode code 1077 = .ok (.aload_n 3, 1) := by decide +kernel
theorem d_LW_law_1078 : decode code 1078 = .ok (.invokestatic 140, 3) := by decide +kernel
theorem d_LW_law_1081 : decode code 1081 = .ok (.istore 5, 2) := by decide +kernel
theorem d_LW_law_1083 : decode code 1083 = .ok (.aload_n 2, 1) := by decide +kernel
theorem d_LW_law_1084 : decode code 1084 = .ok (.aload_n 0, 1) := by decide +kernel
theorem d_LW_law_1085 : decode code 1085 = .ok (.iload 4, 2) := by decide +kernel
theorem d_LW_law_1087 : decode code 1087 = .ok (.iconst 1, 1) := by decide +kernel
theorem d_LW_law_1088 : decode code 1088 = .ok (.iadd, 1) := by decide +kernel
theorem d_LW_law_1089 : decode code 1089 = .ok (.iaload, 1) := by decide +kernel
theorem d_LW_law_1090 : decode code 1090 = .ok (.invokevirtual 142, 3) := by decide +kernel
theorem d_LW_law_1093 : decode code 1093 = .ok (.istore 6, 2) := by decide +kernel
theorem d_LW_law_1095 : decode code 1095 = .ok (.aload_n 2, 1) := by decide +kernel
theorem d_LW_law_1096 : decode code 1096 = .ok (.invokevirtual 84, 3) := by decide +kernel
theorem d_LW_law_1099 : decode code 1099 = .ok (.iload 5, 2) := by decide +kernel
theorem d_LW_law_1101 : decode code 1101 = .ok (.if_icmp .eq 5, 3) := by decide +kernel
theorem d_LW_law_1104 : decode code 1104 = .ok (.iconst 0, 1) := by decide +kernel
theorem d_LW_law_1105 : decode code 1105 = .ok (.ireturn, 1) := by decide +kernel
theorem d_LW_law_1106 : decode code 1106 = .ok (.iload 5, 2) := by decide +kernel
theorem d_LW_law_1108 : decode code 1108 = .ok (.ifCond .ne 15, 3) := by decide +kernel
theorem d_LW_law_1111 : decode code 1111 = .ok (.aload_n 3, 1) := by decide +kernel
theorem d_LW_law_1112 : decode code 1112 = .ok (.iconst 0, 1) := by decide +kernel
theorem d_LW_law_1113 : decode code 1113 = .ok (.laload, 1) := by decide +kernel
theorem d_LW_law_1114 : decode code 1114 = .ok (.iload 6, 2) := by decide +kernel
theorem d_LW_law_1116 : decode code 1116 = .ok (.i2l, 1) := by decide +kernel
theorem d_LW_law_1117 : decode code 1117 = .ok (.lcmp, 1) := by decide +kernel
theorem d_LW_law_1118 : decode code 1118 = .ok (.ifCond .eq 5, 3) := by decide +kernel
theorem d_LW_law_1121 : decode code 1121 = .ok (.iconst 0, 1) := by decide +kernel
theorem d_LW_law_1122 : decode code 1122 = .ok (.ireturn, 1) := by decide +kernel
theorem d_LW_law_1123 : decode code 1123 = .ok (.goto 164, 3) := by decide +kernel
theorem d_LW_law_1126 : decode code 1126 = .ok (.aload_n 1, 1) := by decide +kernel
theorem d_LW_law_1127 : decode code 1127 = .ok (.aload_n 0, 1) := by decide +kernel
theorem d_LW_law_1128 : decode code 1128 = .ok (.iload 4, 2) := by decide +kernel
theorem d_LW_law_1130 : decode code 1130 = .ok (.iconst 1, 1) := by decide +kernel
theorem d_LW_law_1131 : decode code 1131 = .ok (.iadd, 1) := by decide +kernel
theorem d_LW_law_1132 : decode code 1132 = .ok (.iaload, 1) := by decide +kernel
theorem d_LW_law_1133 : decode code 1133 = .ok (.aload_n 0, 1) := by decide +kernel
theorem d_LW_law_1134 : decode code 1134 = .ok (.iload 4, 2) := by decide +kernel
theorem d_LW_law_1136 : decode code 1136 = .ok (.iconst 2, 1) := by decide +kernel
theorem d_LW_law_1137 : decode code 1137 = .ok (.iadd, 1) := by decide +kernel
theorem d_LW_law_1138 : decode code 1138 = .ok (.iaload, 1) := by decide +kernel
theorem d_LW_law_1139 : decode code 1139 = .ok (.aload_n 3, 1) := by decide +kernel
theorem d_LW_law_1140 : decode code 1140 = .ok (.invokestatic 143, 3) := by decide +kernel
theorem d_LW_law_1143 : decode code 1143 = .ok (.istore 5, 2) := by decide +kernel
theorem d_LW_law_1145 : decode code 1145 = .ok (.aload_n 2, 1) := by decide +kernel
theorem d_LW_law_1146 : decode code 1146 = .ok (.aload_n 0, 1) := by decide +kernel
theorem d_LW_law_1147 : decode code 1147 = .ok (.iload 4, 2) := by decide +kernel
theorem d_LW_law_1149 : decode code 1149 = .ok (.iconst 1, 1) := by decide +kernel
theorem d_LW_law_1150 : decode code 1150 = .ok (.iadd, 1) := by decide +kernel
theorem d_LW_law_1151 : decode code 1151 = .ok (.iaload, 1) := by decide +kernel
theorem d_LW_law_1152 : decode code 1152 = .ok (.aload_n 0, 1) := by decide +kernel
theorem d_LW_law_1153 : decode code 1153 = .ok (.iload 4, 2) := by decide +kernel
theorem d_LW_law_1155 : decode code 1155 = .ok (.iconst 2, 1) := by decide +kernel
theorem d_LW_law_1156 : decode code 1156 = .ok (.iadd, 1) := by decide +kernel
theorem d_LW_law_1157 : decode code 1157 = .ok (.iaload, 1) := by decide +kernel
theorem d_LW_law_1158 : decode code 1158 = .ok (.invokevirtual 145, 3) := by decide +kernel
theorem d_LW_law_1161 : decode code 1161 = .ok (.istore 6, 2) := by decide +kernel
theorem d_LW_law_1163 : decode code 1163 = .ok (.aload_n 2, 1) := by decide +kernel
theorem d_LW_law_1164 : decode code 1164 = .ok (.invokevirtual 84, 3) := by decide +kernel
theorem d_LW_law_1167 : decode code 1167 = .ok (.iload 5, 2) := by decide +kernel
theorem d_LW_law_1169 : decode code 1169 = .ok (.if_icmp .eq 5, 3) := by decide +kernel
theorem d_LW_law_1172 : decode code 1172 = .ok (.iconst 0, 1) := by decide +kernel
theorem d_LW_law_1173 : decode code 1173 = .ok (.ireturn, 1) := by decide +kernel
theorem d_LW_law_1174 : decode code 1174 = .ok (.iload 5, 2) := by decide +kernel
theorem d_LW_law_1176 : decode code 1176 = .ok (.ifCond .ne 15, 3) := by decide +kernel
theorem d_LW_law_1179 : decode code 1179 = .ok (.aload_n 3, 1) := by decide +kernel
theorem d_LW_law_1180 : decode code 1180 = .ok (.iconst 0, 1) := by decide +kernel
theorem d_LW_law_1181 : decode code 1181 = .ok (.laload, 1) := by decide +kernel
theorem d_LW_law_1182 : decode code 1182 = .ok (.iload 6, 2) := by decide +kernel
theorem d_LW_law_1184 : decode code 1184 = .ok (.i2l, 1) := by decide +kernel
theorem d_LW_law_1185 : decode code 1185 = .ok (.lcmp, 1) := by decide +kernel
theorem d_LW_law_1186 : decode code 1186 = .ok (.ifCond .eq 5, 3) := by decide +kernel
theorem d_LW_law_1189 : decode code 1189 = .ok (.iconst 0, 1) := by decide +kernel
theorem d_LW_law_1190 : decode code 1190 = .ok (.ireturn, 1) := by decide +kernel
theorem d_LW_law_1191 : decode code 1191 = .ok (.goto 96, 3) := by decide +kernel
theorem d_LW_law_1194 : decode code 1194 = .ok (.aload_n 1, 1) := by decide +kernel
theorem d_LW_law_1195 : decode code 1195 = .ok (.aload_n 0, 1) := by decide +kernel
theorem d_LW_law_1196 : decode code 1196 = .ok (.iload 4, 2) := by decide +kernel
theorem d_LW_law_1198 : decode code 1198 = .ok (.iconst 1, 1) := by decide +kernel
theorem d_LW_law_1199 : decode code 1199 = .ok (.iadd, 1) := by decide +kernel
theorem d_LW_law_1200 : decode code 1200 = .ok (.iaload, 1) := by decide +kernel
theorem d_LW_law_1201 : decode code 1201 = .ok (.aload_n 0, 1) := by decide +kernel
theorem d_LW_law_1202 : decode code 1202 = .ok (.iload 4, 2) := by decide +kernel
theorem d_LW_law_1204 : decode code 1204 = .ok (.iconst 2, 1) := by decide +kernel
theorem d_LW_law_1205 : decode code 1205 = .ok (.iadd, 1) := by decide +kernel
theorem d_LW_law_1206 : decode code 1206 = .ok (.iaload, 1) := by decide +kernel
theorem d_LW_law_1207 : decode code 1207 = .ok (.aload_n 3, 1) := by decide +kernel
theorem d_LW_law_1208 : decode code 1208 = .ok (.invokestatic 146, 3) := by decide +kernel
theorem d_LW_law_1211 : decode code 1211 = .ok (.istore 5, 2) := by decide +kernel
theorem d_LW_law_1213 : decode code 1213 = .ok (.aload_n 2, 1) := by decide +kernel
theorem d_LW_law_1214 : decode code 1214 = .ok (.aload_n 0, 1) := by decide +kernel
theorem d_LW_law_1215 : decode code 1215 = .ok (.iload 4, 2) := by decide +kernel
theorem d_LW_law_1217 : decode code 1217 = .ok (.iconst 1, 1) := by decide +kernel
theorem d_LW_law_1218 : decode code 1218 = .ok (.iadd, 1) := by decide +kernel
theorem d_LW_law_1219 : decode code 1219 = .ok (.iaload, 1) := by decide +kernel
theorem d_LW_law_1220 : decode code 1220 = .ok (.aload_n 0, 1) := by decide +kernel
theorem d_LW_law_1221 : decode code 1221 = .ok (.iload 4, 2) := by decide +kernel
theorem d_LW_law_1223 : decode code 1223 = .ok (.iconst 2, 1) := by decide +kernel
theorem d_LW_law_1224 : decode code 1224 = .ok (.iadd, 1) := by decide +kernel
theorem d_LW_law_1225 : decode code 1225 = .ok (.iaload, 1) := by decide +kernel
theorem d_LW_law_1226 : decode code 1226 = .ok (.invokevirtual 148, 3) := by decide +kernel
theorem d_LW_law_1229 : decode code 1229 = .ok (.istore 6, 2) := by decide +kernel
theorem d_LW_law_1231 : decode code 1231 = .ok (.aload_n 2, 1) := by decide +kernel
theorem d_LW_law_1232 : decode code 1232 = .ok (.invokevirtual 84, 3) := by decide +kernel
theorem d_LW_law_1235 : decode code 1235 = .ok (.iload 5, 2) := by decide +kernel
theorem d_LW_law_1237 : decode code 1237 = .ok (.if_icmp .eq 5, 3) := by decide +kernel
theorem d_LW_law_1240 : decode code 1240 = .ok (.iconst 0, 1) := by decide +kernel
theorem d_LW_law_1241 : decode code 1241 = .ok (.ireturn, 1) := by decide +kernel
theorem d_LW_law_1242 : decode code 1242 = .ok (.iload 5, 2) := by decide +kernel
theorem d_LW_law_1244 : decode code 1244 = .ok (.ifCond .ne 15, 3) := by decide +kernel
theorem d_LW_law_1247 : decode code 1247 = .ok (.aload_n 3, 1) := by decide +kernel
theorem d_LW_law_1248 : decode code 1248 = .ok (.iconst 0, 1) := by decide +kernel
theorem d_LW_law_1249 : decode code 1249 = .ok (.laload, 1) := by decide +kernel
theorem d_LW_law_1250 : decode code 1250 = .ok (.iload 6, 2) := by decide +kernel
theorem d_LW_law_1252 : decode code 1252 = .ok (.i2l, 1) := by decide +kernel
theorem d_LW_law_1253 : decode code 1253 = .ok (.lcmp, 1) := by decide +kernel
theorem d_LW_law_1254 : decode code 1254 = .ok (.ifCond .eq 5, 3) := by decide +kernel
theorem d_LW_law_1257 : decode code 1257 = .ok (.iconst 0, 1) := by decide +kernel
theorem d_LW_law_1258 : decode code 1258 = .ok (.ireturn, 1) := by decide +kernel
theorem d_LW_law_1259 : decode code 1259 = .ok (.goto 28, 3) := by decide +kernel
theorem d_LW_law_1262 : decode code 1262 = .ok (.aload_n 1, 1) := by decide +kernel
theorem d_LW_law_1263 : decode code 1263 = .ok (.aload_n 0, 1) := by decide +kernel
theorem d_LW_law_1264 : decode code 1264 = .ok (.iload 4, 2) := by decide +kernel
theorem d_LW_law_1266 : decode code 1266 = .ok (.iconst 1, 1) := by decide +kernel
theorem d_LW_law_1267 : decode code 1267 = .ok (.iadd, 1) := by decide +kernel
theorem d_LW_law_1268 : decode code 1268 = .ok (.iaload, 1) := by decide +kernel
theorem d_LW_law_1269 : decode code 1269 = .ok (.invokevirtual 149, 3) := by decide +kernel
theorem d_LW_law_1272 : decode code 1272 = .ok (.aload_n 2, 1) := by decide +kernel
theorem d_LW_law_1273 : decode code 1273 = .ok (.aload_n 0, 1) := by decide +kernel
theorem d_LW_law_1274 : decode code 1274 = .ok (.iload 4, 2) := by decide +kernel
theorem d_LW_law_1276 : decode code 1276 = .ok (.iconst 1, 1) := by decide +kernel
theorem d_LW_law_1277 : decode code 1277 = .ok (.iadd, 1) := by decide +kernel
theorem d_LW_law_1278 : decode code 1278 = .ok (.iaload, 1) := by decide +kernel
theorem d_LW_law_1279 : decode code 1279 = .ok (.invokevirtual 152, 3) := by decide +kernel
theorem d_LW_law_1282 : decode code 1282 = .ok (.if_icmp .eq 5, 3) := by decide +kernel
theorem d_LW_law_1285 : decode code 1285 = .ok (.iconst 0, 1) := by decide +kernel
theorem d_LW_law_1286 : decode code 1286 = .ok (.ireturn, 1) := by decide +kernel
theorem d_LW_law_1287 : decode code 1287 = .ok (.iinc 4 6, 3) := by decide +kernel
theorem d_LW_law_1290 : decode code 1290 = .ok (.goto (-1267), 3) := by decide +kernel
theorem d_LW_law_1293 : decode code 1293 = .ok (.iconst 1, 1) := by decide +kernel
theorem d_LW_law_1294 : decode code 1294 = .ok (.ireturn, 1) := by decide +kernel
