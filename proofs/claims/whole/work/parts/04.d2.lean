theorem dX7_requireClause_8 : decode cX7_requireClause 8 = .ok (.invokestatic 308, 3) := by decide +kernel
theorem dX7_requireClause_11 : decode cX7_requireClause 11 = .ok (.ifCond .ne 14, 3) := by decide +kernel
theorem dX7_requireClause_14 : decode cX7_requireClause 14 = .ok (.new 57, 3) := by decide +kernel
theorem dX7_requireClause_17 : decode cX7_requireClause 17 = .ok (.dup, 1) := by decide +kernel
theorem dX7_requireClause_18 : decode cX7_requireClause 18 = .ok (.ldc_w 311, 3) := by decide +kernel
theorem dX7_requireClause_21 : decode cX7_requireClause 21 = .ok (.invokespecial 61, 3) := by decide +kernel
theorem dX7_requireClause_24 : decode cX7_requireClause 24 = .ok (.athrow, 1) := by decide +kernel
theorem dX7_requireClause_25 : decode cX7_requireClause 25 = .ok (.iload_n 0, 1) := by decide +kernel
theorem dX7_requireClause_26 : decode cX7_requireClause 26 = .ok (.iload_n 1, 1) := by decide +kernel
theorem dX7_requireClause_27 : decode cX7_requireClause 27 = .ok (.iand, 1) := by decide +kernel
theorem dX7_requireClause_28 : decode cX7_requireClause 28 = .ok (.ifCond .eq 14, 3) := by decide +kernel
theorem dX7_requireClause_31 : decode cX7_requireClause 31 = .ok (.new 57, 3) := by decide +kernel
theorem dX7_requireClause_34 : decode cX7_requireClause 34 = .ok (.dup, 1) := by decide +kernel
theorem dX7_requireClause_35 : decode cX7_requireClause 35 = .ok (.ldc_w 313, 3) := by decide +kernel
theorem dX7_requireClause_38 : decode cX7_requireClause 38 = .ok (.invokespecial 61, 3) := by decide +kernel
theorem dX7_requireClause_41 : decode cX7_requireClause 41 = .ok (.athrow, 1) := by decide +kernel
theorem dX7_requireClause_42 : decode cX7_requireClause 42 = .ok (.return_, 1) := by decide +kernel
theorem dX7_requireParity_0 : decode cX7_requireParity 0 = .ok (.iload_n 0, 1) := by decide +kernel
theorem dX7_requireParity_1 : decode cX7_requireParity 1 = .ok (.invokestatic 308, 3) := by decide +kernel
theorem dX7_requireParity_4 : decode cX7_requireParity 4 = .ok (.ifCond .ne 14, 3) := by decide +kernel
theorem dX7_requireParity_7 : decode cX7_requireParity 7 = .ok (.new 57, 3) := by decide +kernel
theorem dX7_requireParity_10 : decode cX7_requireParity 10 = .ok (.dup, 1) := by decide +kernel
theorem dX7_requireParity_11 : decode cX7_requireParity 11 = .ok (.ldc_w 311, 3) := by decide +kernel
theorem dX7_requireParity_14 : decode cX7_requireParity 14 = .ok (.invokespecial 61, 3) := by decide +kernel
theorem dX7_requireParity_17 : decode cX7_requireParity 17 = .ok (.athrow, 1) := by decide +kernel
theorem dX7_requireParity_18 : decode cX7_requireParity 18 = .ok (.iload_n 1, 1) := by decide +kernel
theorem dX7_requireParity_19 : decode cX7_requireParity 19 = .ok (.ifCond .lt 8, 3) := by decide +kernel
theorem dX7_requireParity_22 : decode cX7_requireParity 22 = .ok (.iload_n 1, 1) := by decide +kernel
theorem dX7_requireParity_23 : decode cX7_requireParity 23 = .ok (.iconst 1, 1) := by decide +kernel
theorem dX7_requireParity_24 : decode cX7_requireParity 24 = .ok (.if_icmp .le 14, 3) := by decide +kernel
theorem dX7_requireParity_27 : decode cX7_requireParity 27 = .ok (.new 57, 3) := by decide +kernel
theorem dX7_requireParity_30 : decode cX7_requireParity 30 = .ok (.dup, 1) := by decide +kernel
theorem dX7_requireParity_31 : decode cX7_requireParity 31 = .ok (.ldc_w 315, 3) := by decide +kernel
theorem dX7_requireParity_34 : decode cX7_requireParity 34 = .ok (.invokespecial 61, 3) := by decide +kernel
theorem dX7_requireParity_37 : decode cX7_requireParity 37 = .ok (.athrow, 1) := by decide +kernel
theorem dX7_requireParity_38 : decode cX7_requireParity 38 = .ok (.return_, 1) := by decide +kernel
theorem dX7_isSet_0 : decode cX7_isSet 0 = .ok (.iload_n 0, 1) := by decide +kernel
theorem dX7_isSet_1 : decode cX7_isSet 1 = .ok (.ifCond .lt 14, 3) := by decide +kernel
theorem dX7_isSet_4 : decode cX7_isSet 4 = .ok (.iload_n 0, 1) := by decide +kernel
theorem dX7_isSet_5 : decode cX7_isSet 5 = .ok (.sipush 255, 3) := by decide +kernel
theorem dX7_isSet_8 : decode cX7_isSet 8 = .ok (.if_icmp .gt 7, 3) := by decide +kernel
theorem dX7_isSet_11 : decode cX7_isSet 11 = .ok (.iconst 1, 1) := by decide +kernel
theorem dX7_isSet_12 : decode cX7_isSet 12 = .ok (.goto 4, 3) := by decide +kernel
theorem dX7_isSet_15 : decode cX7_isSet 15 = .ok (.iconst 0, 1) := by decide +kernel
theorem dX7_isSet_16 : decode cX7_isSet 16 = .ok (.ireturn, 1) := by decide +kernel
theorem dX7_isVariable_0 : decode cX7_isVariable 0 = .ok (.iload_n 0, 1) := by decide +kernel
theorem dX7_isVariable_1 : decode cX7_isVariable 1 = .ok (.ifCond .lt 13, 3) := by decide +kernel
theorem dX7_isVariable_4 : decode cX7_isVariable 4 = .ok (.iload_n 0, 1) := by decide +kernel
theorem dX7_isVariable_5 : decode cX7_isVariable 5 = .ok (.bipush 8, 2) := by decide +kernel
theorem dX7_isVariable_7 : decode cX7_isVariable 7 = .ok (.if_icmp .ge 7, 3) := by decide +kernel
theorem dX7_isVariable_10 : decode cX7_isVariable 10 = .ok (.iconst 1, 1) := by decide +kernel
theorem dX7_isVariable_11 : decode cX7_isVariable 11 = .ok (.goto 4, 3) := by decide +kernel
theorem dX7_isVariable_14 : decode cX7_isVariable 14 = .ok (.iconst 0, 1) := by decide +kernel
theorem dX7_isVariable_15 : decode cX7_isVariable 15 = .ok (.ireturn, 1) := by decide +kernel
theorem dX7_contains_0 : decode cX7_contains 0 = .ok (.iload_n 0, 1) := by decide +kernel
theorem dX7_contains_1 : decode cX7_contains 1 = .ok (.iload_n 1, 1) := by decide +kernel
theorem dX7_contains_2 : decode cX7_contains 2 = .ok (.ishr, 1) := by decide +kernel
theorem dX7_contains_3 : decode cX7_contains 3 = .ok (.iconst 1, 1) := by decide +kernel
theorem dX7_contains_4 : decode cX7_contains 4 = .ok (.iand, 1) := by decide +kernel
theorem dX7_contains_5 : decode cX7_contains 5 = .ok (.iconst 1, 1) := by decide +kernel
theorem dX7_contains_6 : decode cX7_contains 6 = .ok (.if_icmp .ne 7, 3) := by decide +kernel
theorem dX7_contains_9 : decode cX7_contains 9 = .ok (.iconst 1, 1) := by decide +kernel
theorem dX7_contains_10 : decode cX7_contains 10 = .ok (.goto 4, 3) := by decide +kernel
theorem dX7_contains_13 : decode cX7_contains 13 = .ok (.iconst 0, 1) := by decide +kernel
theorem dX7_contains_14 : decode cX7_contains 14 = .ok (.ireturn, 1) := by decide +kernel
theorem dX7_smallestVariable_0 : decode cX7_smallestVariable 0 = .ok (.iconst 0, 1) := by decide +kernel
theorem dX7_smallestVariable_1 : decode cX7_smallestVariable 1 = .ok (.istore_n 1, 1) := by decide +kernel
theorem dX7_smallestVariable_2 : decode cX7_smallestVariable 2 = .ok (.iload_n 1, 1) := by decide +kernel
theorem dX7_smallestVariable_3 : decode cX7_smallestVariable 3 = .ok (.bipush 8, 2) := by decide +kernel
theorem dX7_smallestVariable_5 : decode cX7_smallestVariable 5 = .ok (.if_icmp .ge 19, 3) := by decide +kernel
theorem dX7_smallestVariable_8 : decode cX7_smallestVariable 8 = .ok (.iload_n 0, 1) := by decide +kernel
theorem dX7_smallestVariable_9 : decode cX7_smallestVariable 9 = .ok (.iload_n 1, 1) := by decide +kernel
theorem dX7_smallestVariable_10 : decode cX7_smallestVariable 10 = .ok (.invokestatic 317, 3) := by decide +kernel
theorem dX7_smallestVariable_13 : decode cX7_smallestVariable 13 = .ok (.ifCond .eq 5, 3) := by decide +kernel
theorem dX7_smallestVariable_16 : decode cX7_smallestVariable 16 = .ok (.iload_n 1, 1) := by decide +kernel
theorem dX7_smallestVariable_17 : decode cX7_smallestVariable 17 = .ok (.ireturn, 1) := by decide +kernel
theorem dX7_smallestVariable_18 : decode cX7_smallestVariable 18 = .ok (.iinc 1 1, 3) := by decide +kernel
theorem dX7_smallestVariable_21 : decode cX7_smallestVariable 21 = .ok (.goto (-19), 3) := by decide +kernel
theorem dX7_smallestVariable_24 : decode cX7_smallestVariable 24 = .ok (.bipush (-9), 2) := by decide +kernel
theorem dX7_smallestVariable_26 : decode cX7_smallestVariable 26 = .ok (.ireturn, 1) := by decide +kernel
theorem dX7_literalOf_0 : decode cX7_literalOf 0 = .ok (.iconst 2, 1) := by decide +kernel
theorem dX7_literalOf_1 : decode cX7_literalOf 1 = .ok (.iload_n 0, 1) := by decide +kernel
theorem dX7_literalOf_2 : decode cX7_literalOf 2 = .ok (.imul, 1) := by decide +kernel
theorem dX7_literalOf_3 : decode cX7_literalOf 3 = .ok (.iload_n 1, 1) := by decide +kernel
theorem dX7_literalOf_4 : decode cX7_literalOf 4 = .ok (.ifCond .eq 7, 3) := by decide +kernel
theorem dX7_literalOf_7 : decode cX7_literalOf 7 = .ok (.iconst 0, 1) := by decide +kernel
theorem dX7_literalOf_8 : decode cX7_literalOf 8 = .ok (.goto 4, 3) := by decide +kernel
theorem dX7_literalOf_11 : decode cX7_literalOf 11 = .ok (.iconst 1, 1) := by decide +kernel
theorem dX7_literalOf_12 : decode cX7_literalOf 12 = .ok (.iadd, 1) := by decide +kernel
theorem dX7_literalOf_13 : decode cX7_literalOf 13 = .ok (.ireturn, 1) := by decide +kernel
theorem dX7_variableOf_0 : decode cX7_variableOf 0 = .ok (.iload_n 0, 1) := by decide +kernel
theorem dX7_variableOf_1 : decode cX7_variableOf 1 = .ok (.iconst 1, 1) := by decide +kernel
theorem dX7_variableOf_2 : decode cX7_variableOf 2 = .ok (.ishr, 1) := by decide +kernel
theorem dX7_variableOf_3 : decode cX7_variableOf 3 = .ok (.ireturn, 1) := by decide +kernel
theorem dX7_clauseCode_0 : decode cX7_clauseCode 0 = .ok (.iload_n 1, 1) := by decide +kernel
theorem dX7_clauseCode_1 : decode cX7_clauseCode 1 = .ok (.bipush 8, 2) := by decide +kernel
theorem dX7_clauseCode_3 : decode cX7_clauseCode 3 = .ok (.ishl, 1) := by decide +kernel
theorem dX7_clauseCode_4 : decode cX7_clauseCode 4 = .ok (.iload_n 0, 1) := by decide +kernel
theorem dX7_clauseCode_5 : decode cX7_clauseCode 5 = .ok (.ior, 1) := by decide +kernel
theorem dX7_clauseCode_6 : decode cX7_clauseCode 6 = .ok (.ireturn, 1) := by decide +kernel
theorem dX7_parityCode_0 : decode cX7_parityCode 0 = .ok (.ldc_w 321, 3) := by decide +kernel
theorem dX7_parityCode_3 : decode cX7_parityCode 3 = .ok (.iload_n 1, 1) := by decide +kernel
theorem dX7_parityCode_4 : decode cX7_parityCode 4 = .ok (.bipush 8, 2) := by decide +kernel
theorem dX7_parityCode_6 : decode cX7_parityCode 6 = .ok (.ishl, 1) := by decide +kernel
theorem dX7_parityCode_7 : decode cX7_parityCode 7 = .ok (.ior, 1) := by decide +kernel
theorem dX7_parityCode_8 : decode cX7_parityCode 8 = .ok (.iload_n 0, 1) := by decide +kernel
theorem dX7_parityCode_9 : decode cX7_parityCode 9 = .ok (.ior, 1) := by decide +kernel
theorem dX7_parityCode_10 : decode cX7_parityCode 10 = .ok (.ireturn, 1) := by decide +kernel
theorem dX7_isParityCode_0 : decode cX7_isParityCode 0 = .ok (.iload_n 0, 1) := by decide +kernel
theorem dX7_isParityCode_1 : decode cX7_isParityCode 1 = .ok (.ldc_w 321, 3) := by decide +kernel
theorem dX7_isParityCode_4 : decode cX7_isParityCode 4 = .ok (.iand, 1) := by decide +kernel
theorem dX7_isParityCode_5 : decode cX7_isParityCode 5 = .ok (.ifCond .eq 7, 3) := by decide +kernel
theorem dX7_isParityCode_8 : decode cX7_isParityCode 8 = .ok (.iconst 1, 1) := by decide +kernel
theorem dX7_isParityCode_9 : decode cX7_isParityCode 9 = .ok (.goto 4, 3) := by decide +kernel
theorem dX7_isParityCode_12 : decode cX7_isParityCode 12 = .ok (.iconst 0, 1) := by decide +kernel
theorem dX7_isParityCode_13 : decode cX7_isParityCode 13 = .ok (.ireturn, 1) := by decide +kernel
theorem dX7_firstPart_0 : decode cX7_firstPart 0 = .ok (.iload_n 0, 1) := by decide +kernel
theorem dX7_firstPart_1 : decode cX7_firstPart 1 = .ok (.sipush 255, 3) := by decide +kernel
theorem dX7_firstPart_4 : decode cX7_firstPart 4 = .ok (.iand, 1) := by decide +kernel
theorem dX7_firstPart_5 : decode cX7_firstPart 5 = .ok (.ireturn, 1) := by decide +kernel
theorem dX7_secondPart_0 : decode cX7_secondPart 0 = .ok (.iload_n 0, 1) := by decide +kernel
theorem dX7_secondPart_1 : decode cX7_secondPart 1 = .ok (.bipush 8, 2) := by decide +kernel
theorem dX7_secondPart_3 : decode cX7_secondPart 3 = .ok (.ishr, 1) := by decide +kernel
theorem dX7_secondPart_4 : decode cX7_secondPart 4 = .ok (.sipush 255, 3) := by decide +kernel
theorem dX7_secondPart_7 : decode cX7_secondPart 7 = .ok (.iand, 1) := by decide +kernel
theorem dX7_secondPart_8 : decode cX7_secondPart 8 = .ok (.ireturn, 1) := by decide +kernel
theorem dX7_variablesOf_0 : decode cX7_variablesOf 0 = .ok (.iload_n 0, 1) := by decide +kernel
theorem dX7_variablesOf_1 : decode cX7_variablesOf 1 = .ok (.ldc_w 321, 3) := by decide +kernel
theorem dX7_variablesOf_4 : decode cX7_variablesOf 4 = .ok (.iand, 1) := by decide +kernel
theorem dX7_variablesOf_5 : decode cX7_variablesOf 5 = .ok (.ifCond .eq 7, 3) := by decide +kernel
theorem dX7_variablesOf_8 : decode cX7_variablesOf 8 = .ok (.iload_n 0, 1) := by decide +kernel
theorem dX7_variablesOf_9 : decode cX7_variablesOf 9 = .ok (.goto 9, 3) := by decide +kernel
theorem dX7_variablesOf_12 : decode cX7_variablesOf 12 = .ok (.iload_n 0, 1) := by decide +kernel
theorem dX7_variablesOf_13 : decode cX7_variablesOf 13 = .ok (.iload_n 0, 1) := by decide +kernel
theorem dX7_variablesOf_14 : decode cX7_variablesOf 14 = .ok (.bipush 8, 2) := by decide +kernel
theorem dX7_variablesOf_16 : decode cX7_variablesOf 16 = .ok (.ishr, 1) := by decide +kernel
theorem dX7_variablesOf_17 : decode cX7_variablesOf 17 = .ok (.ior, 1) := by decide +kernel
theorem dX7_variablesOf_18 : decode cX7_variablesOf 18 = .ok (.istore_n 1, 1) := by decide +kernel
theorem dX7_variablesOf_19 : decode cX7_variablesOf 19 = .ok (.iload_n 1, 1) := by decide +kernel
theorem dX7_variablesOf_20 : decode cX7_variablesOf 20 = .ok (.sipush 255, 3) := by decide +kernel
theorem dX7_variablesOf_23 : decode cX7_variablesOf 23 = .ok (.iand, 1) := by decide +kernel
theorem dX7_variablesOf_24 : decode cX7_variablesOf 24 = .ok (.ireturn, 1) := by decide +kernel
theorem dX7_isViolated_0 : decode cX7_isViolated 0 = .ok (.iload_n 0, 1) := by decide +kernel
theorem dX7_isViolated_1 : decode cX7_isViolated 1 = .ok (.sipush 255, 3) := by decide +kernel
theorem dX7_isViolated_4 : decode cX7_isViolated 4 = .ok (.iand, 1) := by decide +kernel
theorem dX7_isViolated_5 : decode cX7_isViolated 5 = .ok (.istore_n 2, 1) := by decide +kernel
theorem dX7_isViolated_6 : decode cX7_isViolated 6 = .ok (.iload_n 0, 1) := by decide +kernel
theorem dX7_isViolated_7 : decode cX7_isViolated 7 = .ok (.bipush 8, 2) := by decide +kernel
theorem dX7_isViolated_9 : decode cX7_isViolated 9 = .ok (.ishr, 1) := by decide +kernel
theorem dX7_isViolated_10 : decode cX7_isViolated 10 = .ok (.sipush 255, 3) := by decide +kernel
theorem dX7_isViolated_13 : decode cX7_isViolated 13 = .ok (.iand, 1) := by decide +kernel
theorem dX7_isViolated_14 : decode cX7_isViolated 14 = .ok (.istore_n 3, 1) := by decide +kernel
theorem dX7_isViolated_15 : decode cX7_isViolated 15 = .ok (.iload_n 0, 1) := by decide +kernel
theorem dX7_isViolated_16 : decode cX7_isViolated 16 = .ok (.ldc_w 321, 3) := by decide +kernel
theorem dX7_isViolated_19 : decode cX7_isViolated 19 = .ok (.iand, 1) := by decide +kernel
theorem dX7_isViolated_20 : decode cX7_isViolated 20 = .ok (.ifCond .eq 21, 3) := by decide +kernel
theorem dX7_isViolated_23 : decode cX7_isViolated 23 = .ok (.iload_n 2, 1) := by decide +kernel
theorem dX7_isViolated_24 : decode cX7_isViolated 24 = .ok (.iload_n 1, 1) := by decide +kernel
theorem dX7_isViolated_25 : decode cX7_isViolated 25 = .ok (.iand, 1) := by decide +kernel
theorem dX7_isViolated_26 : decode cX7_isViolated 26 = .ok (.invokestatic 322, 3) := by decide +kernel
theorem dX7_isViolated_29 : decode cX7_isViolated 29 = .ok (.iconst 1, 1) := by decide +kernel
theorem dX7_isViolated_30 : decode cX7_isViolated 30 = .ok (.iand, 1) := by decide +kernel
theorem dX7_isViolated_31 : decode cX7_isViolated 31 = .ok (.iload_n 3, 1) := by decide +kernel
theorem dX7_isViolated_32 : decode cX7_isViolated 32 = .ok (.if_icmp .eq 7, 3) := by decide +kernel
theorem dX7_isViolated_35 : decode cX7_isViolated 35 = .ok (.iconst 1, 1) := by decide +kernel
theorem dX7_isViolated_36 : decode cX7_isViolated 36 = .ok (.goto 4, 3) := by decide +kernel
theorem dX7_isViolated_39 : decode cX7_isViolated 39 = .ok (.iconst 0, 1) := by decide +kernel
theorem dX7_isViolated_40 : decode cX7_isViolated 40 = .ok (.ireturn, 1) := by decide +kernel
theorem dX7_isViolated_41 : decode cX7_isViolated 41 = .ok (.iload_n 2, 1) := by decide +kernel
theorem dX7_isViolated_42 : decode cX7_isViolated 42 = .ok (.iload_n 1, 1) := by decide +kernel
theorem dX7_isViolated_43 : decode cX7_isViolated 43 = .ok (.iand, 1) := by decide +kernel
theorem dX7_isViolated_44 : decode cX7_isViolated 44 = .ok (.ifCond .ne 15, 3) := by decide +kernel
theorem dX7_isViolated_47 : decode cX7_isViolated 47 = .ok (.iload_n 3, 1) := by decide +kernel
theorem dX7_isViolated_48 : decode cX7_isViolated 48 = .ok (.iload_n 1, 1) := by decide +kernel
theorem dX7_isViolated_49 : decode cX7_isViolated 49 = .ok (.iconst (-1), 1) := by decide +kernel
theorem dX7_isViolated_50 : decode cX7_isViolated 50 = .ok (.ixor, 1) := by decide +kernel
theorem dX7_isViolated_51 : decode cX7_isViolated 51 = .ok (.iand, 1) := by decide +kernel
theorem dX7_isViolated_52 : decode cX7_isViolated 52 = .ok (.ifCond .ne 7, 3) := by decide +kernel
theorem dX7_isViolated_55 : decode cX7_isViolated 55 = .ok (.iconst 1, 1) := by decide +kernel
theorem dX7_isViolated_56 : decode cX7_isViolated 56 = .ok (.goto 4, 3) := by decide +kernel
theorem dX7_isViolated_59 : decode cX7_isViolated 59 = .ok (.iconst 0, 1) := by decide +kernel
theorem dX7_isViolated_60 : decode cX7_isViolated 60 = .ok (.ireturn, 1) := by decide +kernel
theorem dX8_init_0 : decode cX8_init 0 = .ok (.aload_n 0, 1) := by decide +kernel
theorem dX8_init_1 : decode cX8_init 1 = .ok (.invokespecial 1, 3) := by decide +kernel
theorem dX8_init_4 : decode cX8_init 4 = .ok (.aload_n 0, 1) := by decide +kernel
theorem dX8_init_5 : decode cX8_init 5 = .ok (.bipush 82, 2) := by decide +kernel
theorem dX8_init_7 : decode cX8_init 7 = .ok (.newarray .int, 2) := by decide +kernel
theorem dX8_init_9 : decode cX8_init 9 = .ok (.putfield 7, 3) := by decide +kernel
theorem dX8_init_12 : decode cX8_init 12 = .ok (.aload_n 0, 1) := by decide +kernel
theorem dX8_init_13 : decode cX8_init 13 = .ok (.bipush 82, 2) := by decide +kernel
theorem dX8_init_15 : decode cX8_init 15 = .ok (.newarray .int, 2) := by decide +kernel
theorem dX8_init_17 : decode cX8_init 17 = .ok (.putfield 13, 3) := by decide +kernel
theorem dX8_init_20 : decode cX8_init 20 = .ok (.aload_n 0, 1) := by decide +kernel
theorem dX8_init_21 : decode cX8_init 21 = .ok (.sipush 1148, 3) := by decide +kernel
theorem dX8_init_24 : decode cX8_init 24 = .ok (.newarray .int, 2) := by decide +kernel
theorem dX8_init_26 : decode cX8_init 26 = .ok (.putfield 16, 3) := by decide +kernel
theorem dX8_init_29 : decode cX8_init 29 = .ok (.aload_n 0, 1) := by decide +kernel
theorem dX8_init_30 : decode cX8_init 30 = .ok (.sipush 164, 3) := by decide +kernel
theorem dX8_init_33 : decode cX8_init 33 = .ok (.newarray .int, 2) := by decide +kernel
theorem dX8_init_35 : decode cX8_init 35 = .ok (.putfield 19, 3) := by decide +kernel
theorem dX8_init_38 : decode cX8_init 38 = .ok (.aload_n 0, 1) := by decide +kernel
theorem dX8_init_39 : decode cX8_init 39 = .ok (.iconst 2, 1) := by decide +kernel
theorem dX8_init_40 : decode cX8_init 40 = .ok (.newarray .boolean, 2) := by decide +kernel
theorem dX8_init_42 : decode cX8_init 42 = .ok (.putfield 22, 3) := by decide +kernel
theorem dX8_init_45 : decode cX8_init 45 = .ok (.aload_n 0, 1) := by decide +kernel
theorem dX8_init_46 : decode cX8_init 46 = .ok (.bipush 8, 2) := by decide +kernel
theorem dX8_init_48 : decode cX8_init 48 = .ok (.newarray .int, 2) := by decide +kernel
theorem dX8_init_50 : decode cX8_init 50 = .ok (.putfield 26, 3) := by decide +kernel
theorem dX8_init_53 : decode cX8_init 53 = .ok (.aload_n 0, 1) := by decide +kernel
theorem dX8_init_54 : decode cX8_init 54 = .ok (.bipush 8, 2) := by decide +kernel
theorem dX8_init_56 : decode cX8_init 56 = .ok (.newarray .int, 2) := by decide +kernel
theorem dX8_init_58 : decode cX8_init 58 = .ok (.putfield 29, 3) := by decide +kernel
theorem dX8_init_61 : decode cX8_init 61 = .ok (.aload_n 0, 1) := by decide +kernel
theorem dX8_init_62 : decode cX8_init 62 = .ok (.bipush 8, 2) := by decide +kernel
theorem dX8_init_64 : decode cX8_init 64 = .ok (.newarray .int, 2) := by decide +kernel
theorem dX8_init_66 : decode cX8_init 66 = .ok (.putfield 32, 3) := by decide +kernel
theorem dX8_init_69 : decode cX8_init 69 = .ok (.aload_n 0, 1) := by decide +kernel
theorem dX8_init_70 : decode cX8_init 70 = .ok (.bipush 8, 2) := by decide +kernel
theorem dX8_init_72 : decode cX8_init 72 = .ok (.newarray .int, 2) := by decide +kernel
theorem dX8_init_74 : decode cX8_init 74 = .ok (.putfield 35, 3) := by decide +kernel
theorem dX8_init_77 : decode cX8_init 77 = .ok (.aload_n 0, 1) := by decide +kernel
theorem dX8_init_78 : decode cX8_init 78 = .ok (.bipush (-9), 2) := by decide +kernel
theorem dX8_init_80 : decode cX8_init 80 = .ok (.putfield 38, 3) := by decide +kernel
theorem dX8_init_83 : decode cX8_init 83 = .ok (.aload_n 0, 1) := by decide +kernel
theorem dX8_init_84 : decode cX8_init 84 = .ok (.bipush 90, 2) := by decide +kernel
theorem dX8_init_86 : decode cX8_init 86 = .ok (.newarray .int, 2) := by decide +kernel
theorem dX8_init_88 : decode cX8_init 88 = .ok (.putfield 42, 3) := by decide +kernel
theorem dX8_init_91 : decode cX8_init 91 = .ok (.aload_n 0, 1) := by decide +kernel
theorem dX8_init_92 : decode cX8_init 92 = .ok (.bipush 82, 2) := by decide +kernel
theorem dX8_init_94 : decode cX8_init 94 = .ok (.newarray .int, 2) := by decide +kernel
theorem dX8_init_96 : decode cX8_init 96 = .ok (.putfield 45, 3) := by decide +kernel
theorem dX8_init_99 : decode cX8_init 99 = .ok (.aload_n 0, 1) := by decide +kernel
theorem dX8_init_100 : decode cX8_init 100 = .ok (.bipush 24, 2) := by decide +kernel
theorem dX8_init_102 : decode cX8_init 102 = .ok (.newarray .int, 2) := by decide +kernel
theorem dX8_init_104 : decode cX8_init 104 = .ok (.putfield 48, 3) := by decide +kernel
theorem dX8_init_107 : decode cX8_init 107 = .ok (.iconst 0, 1) := by decide +kernel
theorem dX8_init_108 : decode cX8_init 108 = .ok (.istore_n 1, 1) := by decide +kernel
theorem dX8_init_109 : decode cX8_init 109 = .ok (.iload_n 1, 1) := by decide +kernel
theorem dX8_init_110 : decode cX8_init 110 = .ok (.bipush 8, 2) := by decide +kernel
theorem dX8_init_112 : decode cX8_init 112 = .ok (.if_icmp .ge 17, 3) := by decide +kernel
theorem dX8_init_115 : decode cX8_init 115 = .ok (.aload_n 0, 1) := by decide +kernel
theorem dX8_init_116 : decode cX8_init 116 = .ok (.getfield 32, 3) := by decide +kernel
theorem dX8_init_119 : decode cX8_init 119 = .ok (.iload_n 1, 1) := by decide +kernel
theorem dX8_init_120 : decode cX8_init 120 = .ok (.bipush (-9), 2) := by decide +kernel
theorem dX8_init_122 : decode cX8_init 122 = .ok (.iastore, 1) := by decide +kernel
theorem dX8_init_123 : decode cX8_init 123 = .ok (.iinc 1 1, 3) := by decide +kernel
theorem dX8_init_126 : decode cX8_init 126 = .ok (.goto (-17), 3) := by decide +kernel
theorem dX8_init_129 : decode cX8_init 129 = .ok (.return_, 1) := by decide +kernel
theorem dX8_thrown_0 : decode cX8_thrown 0 = .ok (.aload_n 0, 1) := by decide +kernel
theorem dX8_thrown_1 : decode cX8_thrown 1 = .ok (.getfield 51, 3) := by decide +kernel
theorem dX8_thrown_4 : decode cX8_thrown 4 = .ok (.ireturn, 1) := by decide +kernel
theorem dX8_refused_0 : decode cX8_refused 0 = .ok (.aload_n 0, 1) := by decide +kernel
theorem dX8_refused_1 : decode cX8_refused 1 = .ok (.iload_n 1, 1) := by decide +kernel
theorem dX8_refused_2 : decode cX8_refused 2 = .ok (.putfield 51, 3) := by decide +kernel
theorem dX8_refused_5 : decode cX8_refused 5 = .ok (.iload_n 1, 1) := by decide +kernel
theorem dX8_refused_6 : decode cX8_refused 6 = .ok (.ifCond .le 7, 3) := by decide +kernel
theorem dX8_refused_9 : decode cX8_refused 9 = .ok (.iconst 1, 1) := by decide +kernel
theorem dX8_refused_10 : decode cX8_refused 10 = .ok (.goto 4, 3) := by decide +kernel
theorem dX8_refused_13 : decode cX8_refused 13 = .ok (.iconst 0, 1) := by decide +kernel
theorem dX8_refused_14 : decode cX8_refused 14 = .ok (.ireturn, 1) := by decide +kernel
theorem dX8_in_0 : decode cX8_in 0 = .ok (.lload_n 0, 1) := by decide +kernel
theorem dX8_in_1 : decode cX8_in 1 = .ok (.lload_n 2, 1) := by decide +kernel
theorem dX8_in_2 : decode cX8_in 2 = .ok (.lcmp, 1) := by decide +kernel
theorem dX8_in_3 : decode cX8_in 3 = .ok (.ifCond .lt 14, 3) := by decide +kernel
theorem dX8_in_6 : decode cX8_in 6 = .ok (.lload_n 0, 1) := by decide +kernel
theorem dX8_in_7 : decode cX8_in 7 = .ok (.lload 4, 2) := by decide +kernel
theorem dX8_in_9 : decode cX8_in 9 = .ok (.lcmp, 1) := by decide +kernel
theorem dX8_in_10 : decode cX8_in 10 = .ok (.ifCond .gt 7, 3) := by decide +kernel
theorem dX8_in_13 : decode cX8_in 13 = .ok (.iconst 1, 1) := by decide +kernel
theorem dX8_in_14 : decode cX8_in 14 = .ok (.goto 4, 3) := by decide +kernel
theorem dX8_in_17 : decode cX8_in 17 = .ok (.iconst 0, 1) := by decide +kernel
theorem dX8_in_18 : decode cX8_in 18 = .ok (.ireturn, 1) := by decide +kernel
theorem dX8_has_0 : decode cX8_has 0 = .ok (.iload_n 0, 1) := by decide +kernel
theorem dX8_has_1 : decode cX8_has 1 = .ok (.iload_n 1, 1) := by decide +kernel
theorem dX8_has_2 : decode cX8_has 2 = .ok (.ishr, 1) := by decide +kernel
theorem dX8_has_3 : decode cX8_has 3 = .ok (.iconst 1, 1) := by decide +kernel
theorem dX8_has_4 : decode cX8_has 4 = .ok (.iand, 1) := by decide +kernel
theorem dX8_has_5 : decode cX8_has 5 = .ok (.iconst 1, 1) := by decide +kernel
theorem dX8_has_6 : decode cX8_has 6 = .ok (.if_icmp .ne 7, 3) := by decide +kernel
theorem dX8_has_9 : decode cX8_has 9 = .ok (.iconst 1, 1) := by decide +kernel
theorem dX8_has_10 : decode cX8_has 10 = .ok (.goto 4, 3) := by decide +kernel
theorem dX8_has_13 : decode cX8_has 13 = .ok (.iconst 0, 1) := by decide +kernel
theorem dX8_has_14 : decode cX8_has 14 = .ok (.ireturn, 1) := by decide +kernel
theorem dX8_bits_0 : decode cX8_bits 0 = .ok (.iconst 0, 1) := by decide +kernel
theorem dX8_bits_1 : decode cX8_bits 1 = .ok (.istore_n 1, 1) := by decide +kernel
theorem dX8_bits_2 : decode cX8_bits 2 = .ok (.iconst 0, 1) := by decide +kernel
theorem dX8_bits_3 : decode cX8_bits 3 = .ok (.istore_n 2, 1) := by decide +kernel
theorem dX8_bits_4 : decode cX8_bits 4 = .ok (.iload_n 2, 1) := by decide +kernel
theorem dX8_bits_5 : decode cX8_bits 5 = .ok (.bipush 24, 2) := by decide +kernel
theorem dX8_bits_7 : decode cX8_bits 7 = .ok (.if_icmp .ge 17, 3) := by decide +kernel
theorem dX8_bits_10 : decode cX8_bits 10 = .ok (.iload_n 1, 1) := by decide +kernel
theorem dX8_bits_11 : decode cX8_bits 11 = .ok (.iload_n 0, 1) := by decide +kernel
theorem dX8_bits_12 : decode cX8_bits 12 = .ok (.iload_n 2, 1) := by decide +kernel
theorem dX8_bits_13 : decode cX8_bits 13 = .ok (.ishr, 1) := by decide +kernel
theorem dX8_bits_14 : decode cX8_bits 14 = .ok (.iconst 1, 1) := by decide +kernel
theorem dX8_bits_15 : decode cX8_bits 15 = .ok (.iand, 1) := by decide +kernel
theorem dX8_bits_16 : decode cX8_bits 16 = .ok (.iadd, 1) := by decide +kernel
theorem dX8_bits_17 : decode cX8_bits 17 = .ok (.istore_n 1, 1) := by decide +kernel
theorem dX8_bits_18 : decode cX8_bits 18 = .ok (.iinc 2 1, 3) := by decide +kernel
theorem dX8_bits_21 : decode cX8_bits 21 = .ok (.goto (-17), 3) := by decide +kernel
theorem dX8_bits_24 : decode cX8_bits 24 = .ok (.iload_n 1, 1) := by decide +kernel
theorem dX8_bits_25 : decode cX8_bits 25 = .ok (.ireturn, 1) := by decide +kernel
theorem dX8_lowest_0 : decode cX8_lowest 0 = .ok (.iconst 0, 1) := by decide +kernel
theorem dX8_lowest_1 : decode cX8_lowest 1 = .ok (.istore_n 1, 1) := by decide +kernel
theorem dX8_lowest_2 : decode cX8_lowest 2 = .ok (.iload_n 0, 1) := by decide +kernel
theorem dX8_lowest_3 : decode cX8_lowest 3 = .ok (.iload_n 1, 1) := by decide +kernel
theorem dX8_lowest_4 : decode cX8_lowest 4 = .ok (.invokestatic 54, 3) := by decide +kernel
theorem dX8_lowest_7 : decode cX8_lowest 7 = .ok (.ifCond .ne 9, 3) := by decide +kernel
theorem dX8_lowest_10 : decode cX8_lowest 10 = .ok (.iinc 1 1, 3) := by decide +kernel
theorem dX8_lowest_13 : decode cX8_lowest 13 = .ok (.goto (-11), 3) := by decide +kernel
theorem dX8_lowest_16 : decode cX8_lowest 16 = .ok (.iload_n 1, 1) := by decide +kernel
theorem dX8_lowest_17 : decode cX8_lowest 17 = .ok (.ireturn, 1) := by decide +kernel
theorem dX8_copy_0 : decode cX8_copy 0 = .ok (.iconst 0, 1) := by decide +kernel
theorem dX8_copy_1 : decode cX8_copy 1 = .ok (.istore_n 2, 1) := by decide +kernel
theorem dX8_copy_2 : decode cX8_copy 2 = .ok (.iload_n 2, 1) := by decide +kernel
theorem dX8_copy_3 : decode cX8_copy 3 = .ok (.bipush 82, 2) := by decide +kernel
theorem dX8_copy_5 : decode cX8_copy 5 = .ok (.if_icmp .ge 15, 3) := by decide +kernel
theorem dX8_copy_8 : decode cX8_copy 8 = .ok (.aload_n 1, 1) := by decide +kernel
theorem dX8_copy_9 : decode cX8_copy 9 = .ok (.iload_n 2, 1) := by decide +kernel
theorem dX8_copy_10 : decode cX8_copy 10 = .ok (.aload_n 0, 1) := by decide +kernel
theorem dX8_copy_11 : decode cX8_copy 11 = .ok (.iload_n 2, 1) := by decide +kernel
theorem dX8_copy_12 : decode cX8_copy 12 = .ok (.iaload, 1) := by decide +kernel
theorem dX8_copy_13 : decode cX8_copy 13 = .ok (.iastore, 1) := by decide +kernel
theorem dX8_copy_14 : decode cX8_copy 14 = .ok (.iinc 2 1, 3) := by decide +kernel
theorem dX8_copy_17 : decode cX8_copy 17 = .ok (.goto (-15), 3) := by decide +kernel
theorem dX8_copy_20 : decode cX8_copy 20 = .ok (.return_, 1) := by decide +kernel
theorem dX8_variablesOf_0 : decode cX8_variablesOf 0 = .ok (.aload_n 0, 1) := by decide +kernel
theorem dX8_variablesOf_1 : decode cX8_variablesOf 1 = .ok (.iconst 1, 1) := by decide +kernel
theorem dX8_variablesOf_2 : decode cX8_variablesOf 2 = .ok (.iload_n 1, 1) := by decide +kernel
theorem dX8_variablesOf_3 : decode cX8_variablesOf 3 = .ok (.iadd, 1) := by decide +kernel
theorem dX8_variablesOf_4 : decode cX8_variablesOf 4 = .ok (.iaload, 1) := by decide +kernel
theorem dX8_variablesOf_5 : decode cX8_variablesOf 5 = .ok (.iconst 1, 1) := by decide +kernel
theorem dX8_variablesOf_6 : decode cX8_variablesOf 6 = .ok (.if_icmp .ne 12, 3) := by decide +kernel
theorem dX8_variablesOf_9 : decode cX8_variablesOf 9 = .ok (.aload_n 0, 1) := by decide +kernel
theorem dX8_variablesOf_10 : decode cX8_variablesOf 10 = .ok (.bipush 25, 2) := by decide +kernel
theorem dX8_variablesOf_12 : decode cX8_variablesOf 12 = .ok (.iload_n 1, 1) := by decide +kernel
theorem dX8_variablesOf_13 : decode cX8_variablesOf 13 = .ok (.iadd, 1) := by decide +kernel
theorem dX8_variablesOf_14 : decode cX8_variablesOf 14 = .ok (.iaload, 1) := by decide +kernel
theorem dX8_variablesOf_15 : decode cX8_variablesOf 15 = .ok (.goto 16, 3) := by decide +kernel
theorem dX8_variablesOf_18 : decode cX8_variablesOf 18 = .ok (.aload_n 0, 1) := by decide +kernel
theorem dX8_variablesOf_19 : decode cX8_variablesOf 19 = .ok (.bipush 25, 2) := by decide +kernel
theorem dX8_variablesOf_21 : decode cX8_variablesOf 21 = .ok (.iload_n 1, 1) := by decide +kernel
theorem dX8_variablesOf_22 : decode cX8_variablesOf 22 = .ok (.iadd, 1) := by decide +kernel
theorem dX8_variablesOf_23 : decode cX8_variablesOf 23 = .ok (.iaload, 1) := by decide +kernel
theorem dX8_variablesOf_24 : decode cX8_variablesOf 24 = .ok (.aload_n 0, 1) := by decide +kernel
theorem dX8_variablesOf_25 : decode cX8_variablesOf 25 = .ok (.bipush 49, 2) := by decide +kernel
theorem dX8_variablesOf_27 : decode cX8_variablesOf 27 = .ok (.iload_n 1, 1) := by decide +kernel
theorem dX8_variablesOf_28 : decode cX8_variablesOf 28 = .ok (.iadd, 1) := by decide +kernel
theorem dX8_variablesOf_29 : decode cX8_variablesOf 29 = .ok (.iaload, 1) := by decide +kernel
theorem dX8_variablesOf_30 : decode cX8_variablesOf 30 = .ok (.ior, 1) := by decide +kernel
theorem dX8_variablesOf_31 : decode cX8_variablesOf 31 = .ok (.ireturn, 1) := by decide +kernel
theorem dX8_isSatisfied_0 : decode cX8_isSatisfied 0 = .ok (.aload_n 0, 1) := by decide +kernel
theorem dX8_isSatisfied_1 : decode cX8_isSatisfied 1 = .ok (.iconst 1, 1) := by decide +kernel
theorem dX8_isSatisfied_2 : decode cX8_isSatisfied 2 = .ok (.iload_n 1, 1) := by decide +kernel
theorem dX8_isSatisfied_3 : decode cX8_isSatisfied 3 = .ok (.iadd, 1) := by decide +kernel
theorem dX8_isSatisfied_4 : decode cX8_isSatisfied 4 = .ok (.iaload, 1) := by decide +kernel
theorem dX8_isSatisfied_5 : decode cX8_isSatisfied 5 = .ok (.iconst 1, 1) := by decide +kernel
theorem dX8_isSatisfied_6 : decode cX8_isSatisfied 6 = .ok (.if_icmp .ne 31, 3) := by decide +kernel
theorem dX8_isSatisfied_9 : decode cX8_isSatisfied 9 = .ok (.aload_n 0, 1) := by decide +kernel
theorem dX8_isSatisfied_10 : decode cX8_isSatisfied 10 = .ok (.bipush 25, 2) := by decide +kernel
theorem dX8_isSatisfied_12 : decode cX8_isSatisfied 12 = .ok (.iload_n 1, 1) := by decide +kernel
theorem dX8_isSatisfied_13 : decode cX8_isSatisfied 13 = .ok (.iadd, 1) := by decide +kernel
theorem dX8_isSatisfied_14 : decode cX8_isSatisfied 14 = .ok (.iaload, 1) := by decide +kernel
theorem dX8_isSatisfied_15 : decode cX8_isSatisfied 15 = .ok (.iload_n 2, 1) := by decide +kernel
theorem dX8_isSatisfied_16 : decode cX8_isSatisfied 16 = .ok (.iand, 1) := by decide +kernel
theorem dX8_isSatisfied_17 : decode cX8_isSatisfied 17 = .ok (.invokestatic 58, 3) := by decide +kernel
theorem dX8_isSatisfied_20 : decode cX8_isSatisfied 20 = .ok (.iconst 2, 1) := by decide +kernel
theorem dX8_isSatisfied_21 : decode cX8_isSatisfied 21 = .ok (.irem, 1) := by decide +kernel
theorem dX8_isSatisfied_22 : decode cX8_isSatisfied 22 = .ok (.aload_n 0, 1) := by decide +kernel
theorem dX8_isSatisfied_23 : decode cX8_isSatisfied 23 = .ok (.bipush 49, 2) := by decide +kernel
theorem dX8_isSatisfied_25 : decode cX8_isSatisfied 25 = .ok (.iload_n 1, 1) := by decide +kernel
theorem dX8_isSatisfied_26 : decode cX8_isSatisfied 26 = .ok (.iadd, 1) := by decide +kernel
theorem dX8_isSatisfied_27 : decode cX8_isSatisfied 27 = .ok (.iaload, 1) := by decide +kernel
theorem dX8_isSatisfied_28 : decode cX8_isSatisfied 28 = .ok (.if_icmp .ne 7, 3) := by decide +kernel
theorem dX8_isSatisfied_31 : decode cX8_isSatisfied 31 = .ok (.iconst 1, 1) := by decide +kernel
theorem dX8_isSatisfied_32 : decode cX8_isSatisfied 32 = .ok (.goto 4, 3) := by decide +kernel
theorem dX8_isSatisfied_35 : decode cX8_isSatisfied 35 = .ok (.iconst 0, 1) := by decide +kernel
theorem dX8_isSatisfied_36 : decode cX8_isSatisfied 36 = .ok (.ireturn, 1) := by decide +kernel
theorem dX8_isSatisfied_37 : decode cX8_isSatisfied 37 = .ok (.aload_n 0, 1) := by decide +kernel
theorem dX8_isSatisfied_38 : decode cX8_isSatisfied 38 = .ok (.bipush 25, 2) := by decide +kernel
theorem dX8_isSatisfied_40 : decode cX8_isSatisfied 40 = .ok (.iload_n 1, 1) := by decide +kernel
theorem dX8_isSatisfied_41 : decode cX8_isSatisfied 41 = .ok (.iadd, 1) := by decide +kernel
theorem dX8_isSatisfied_42 : decode cX8_isSatisfied 42 = .ok (.iaload, 1) := by decide +kernel
theorem dX8_isSatisfied_43 : decode cX8_isSatisfied 43 = .ok (.iload_n 2, 1) := by decide +kernel
theorem dX8_isSatisfied_44 : decode cX8_isSatisfied 44 = .ok (.iand, 1) := by decide +kernel
theorem dX8_isSatisfied_45 : decode cX8_isSatisfied 45 = .ok (.ifCond .ne 16, 3) := by decide +kernel
theorem dX8_isSatisfied_48 : decode cX8_isSatisfied 48 = .ok (.aload_n 0, 1) := by decide +kernel
theorem dX8_isSatisfied_49 : decode cX8_isSatisfied 49 = .ok (.bipush 49, 2) := by decide +kernel
theorem dX8_isSatisfied_51 : decode cX8_isSatisfied 51 = .ok (.iload_n 1, 1) := by decide +kernel
theorem dX8_isSatisfied_52 : decode cX8_isSatisfied 52 = .ok (.iadd, 1) := by decide +kernel
theorem dX8_isSatisfied_53 : decode cX8_isSatisfied 53 = .ok (.iaload, 1) := by decide +kernel
theorem dX8_isSatisfied_54 : decode cX8_isSatisfied 54 = .ok (.iload_n 2, 1) := by decide +kernel
theorem dX8_isSatisfied_55 : decode cX8_isSatisfied 55 = .ok (.iconst (-1), 1) := by decide +kernel
theorem dX8_isSatisfied_56 : decode cX8_isSatisfied 56 = .ok (.ixor, 1) := by decide +kernel
theorem dX8_isSatisfied_57 : decode cX8_isSatisfied 57 = .ok (.iand, 1) := by decide +kernel
theorem dX8_isSatisfied_58 : decode cX8_isSatisfied 58 = .ok (.ifCond .eq 7, 3) := by decide +kernel
theorem dX8_isSatisfied_61 : decode cX8_isSatisfied 61 = .ok (.iconst 1, 1) := by decide +kernel
theorem dX8_isSatisfied_62 : decode cX8_isSatisfied 62 = .ok (.goto 4, 3) := by decide +kernel
theorem dX8_isSatisfied_65 : decode cX8_isSatisfied 65 = .ok (.iconst 0, 1) := by decide +kernel
theorem dX8_isSatisfied_66 : decode cX8_isSatisfied 66 = .ok (.ireturn, 1) := by decide +kernel
theorem dX8_addTo_0 : decode cX8_addTo 0 = .ok (.aload_n 0, 1) := by decide +kernel
theorem dX8_addTo_1 : decode cX8_addTo 1 = .ok (.iconst 0, 1) := by decide +kernel
theorem dX8_addTo_2 : decode cX8_addTo 2 = .ok (.iaload, 1) := by decide +kernel
theorem dX8_addTo_3 : decode cX8_addTo 3 = .ok (.istore 4, 2) := by decide +kernel
theorem dX8_addTo_5 : decode cX8_addTo 5 = .ok (.aload_n 0, 1) := by decide +kernel
theorem dX8_addTo_6 : decode cX8_addTo 6 = .ok (.iconst 1, 1) := by decide +kernel
theorem dX8_addTo_7 : decode cX8_addTo 7 = .ok (.iload 4, 2) := by decide +kernel
theorem dX8_addTo_9 : decode cX8_addTo 9 = .ok (.iadd, 1) := by decide +kernel
theorem dX8_addTo_10 : decode cX8_addTo 10 = .ok (.iload_n 1, 1) := by decide +kernel
theorem dX8_addTo_11 : decode cX8_addTo 11 = .ok (.iastore, 1) := by decide +kernel
theorem dX8_addTo_12 : decode cX8_addTo 12 = .ok (.aload_n 0, 1) := by decide +kernel
theorem dX8_addTo_13 : decode cX8_addTo 13 = .ok (.bipush 25, 2) := by decide +kernel
theorem dX8_addTo_15 : decode cX8_addTo 15 = .ok (.iload 4, 2) := by decide +kernel
theorem dX8_addTo_17 : decode cX8_addTo 17 = .ok (.iadd, 1) := by decide +kernel
theorem dX8_addTo_18 : decode cX8_addTo 18 = .ok (.iload_n 2, 1) := by decide +kernel
theorem dX8_addTo_19 : decode cX8_addTo 19 = .ok (.iastore, 1) := by decide +kernel
theorem dX8_addTo_20 : decode cX8_addTo 20 = .ok (.aload_n 0, 1) := by decide +kernel
theorem dX8_addTo_21 : decode cX8_addTo 21 = .ok (.bipush 49, 2) := by decide +kernel
theorem dX8_addTo_23 : decode cX8_addTo 23 = .ok (.iload 4, 2) := by decide +kernel
theorem dX8_addTo_25 : decode cX8_addTo 25 = .ok (.iadd, 1) := by decide +kernel
theorem dX8_addTo_26 : decode cX8_addTo 26 = .ok (.iload_n 3, 1) := by decide +kernel
theorem dX8_addTo_27 : decode cX8_addTo 27 = .ok (.iastore, 1) := by decide +kernel
theorem dX8_addTo_28 : decode cX8_addTo 28 = .ok (.aload_n 0, 1) := by decide +kernel
theorem dX8_addTo_29 : decode cX8_addTo 29 = .ok (.iconst 0, 1) := by decide +kernel
theorem dX8_addTo_30 : decode cX8_addTo 30 = .ok (.dup2, 1) := by decide +kernel
theorem dX8_addTo_31 : decode cX8_addTo 31 = .ok (.iaload, 1) := by decide +kernel
theorem dX8_addTo_32 : decode cX8_addTo 32 = .ok (.iconst 1, 1) := by decide +kernel
theorem dX8_addTo_33 : decode cX8_addTo 33 = .ok (.iadd, 1) := by decide +kernel
theorem dX8_addTo_34 : decode cX8_addTo 34 = .ok (.iastore, 1) := by decide +kernel
theorem dX8_addTo_35 : decode cX8_addTo 35 = .ok (.return_, 1) := by decide +kernel
theorem dX8_assign_0 : decode cX8_assign 0 = .ok (.aload_n 0, 1) := by decide +kernel
theorem dX8_assign_1 : decode cX8_assign 1 = .ok (.dup, 1) := by decide +kernel
theorem dX8_assign_2 : decode cX8_assign 2 = .ok (.getfield 62, 3) := by decide +kernel
theorem dX8_assign_5 : decode cX8_assign 5 = .ok (.iconst 1, 1) := by decide +kernel
theorem dX8_assign_6 : decode cX8_assign 6 = .ok (.iload_n 1, 1) := by decide +kernel
theorem dX8_assign_7 : decode cX8_assign 7 = .ok (.ishl, 1) := by decide +kernel
theorem dX8_assign_8 : decode cX8_assign 8 = .ok (.ior, 1) := by decide +kernel
theorem dX8_assign_9 : decode cX8_assign 9 = .ok (.putfield 62, 3) := by decide +kernel
theorem dX8_assign_12 : decode cX8_assign 12 = .ok (.aload_n 0, 1) := by decide +kernel
theorem dX8_assign_13 : decode cX8_assign 13 = .ok (.dup, 1) := by decide +kernel
theorem dX8_assign_14 : decode cX8_assign 14 = .ok (.getfield 65, 3) := by decide +kernel
theorem dX8_assign_17 : decode cX8_assign 17 = .ok (.iload_n 2, 1) := by decide +kernel
theorem dX8_assign_18 : decode cX8_assign 18 = .ok (.ifCond .eq 9, 3) := by decide +kernel
theorem dX8_assign_21 : decode cX8_assign 21 = .ok (.iconst 1, 1) := by decide +kernel
theorem dX8_assign_22 : decode cX8_assign 22 = .ok (.iload_n 1, 1) := by decide +kernel
theorem dX8_assign_23 : decode cX8_assign 23 = .ok (.ishl, 1) := by decide +kernel
theorem dX8_assign_24 : decode cX8_assign 24 = .ok (.goto 4, 3) := by decide +kernel
theorem dX8_assign_27 : decode cX8_assign 27 = .ok (.iconst 0, 1) := by decide +kernel
theorem dX8_assign_28 : decode cX8_assign 28 = .ok (.ior, 1) := by decide +kernel
theorem dX8_assign_29 : decode cX8_assign 29 = .ok (.putfield 65, 3) := by decide +kernel
theorem dX8_assign_32 : decode cX8_assign 32 = .ok (.aload_n 0, 1) := by decide +kernel
theorem dX8_assign_33 : decode cX8_assign 33 = .ok (.getfield 35, 3) := by decide +kernel
theorem dX8_assign_36 : decode cX8_assign 36 = .ok (.iload_n 1, 1) := by decide +kernel
theorem dX8_assign_37 : decode cX8_assign 37 = .ok (.aload_n 0, 1) := by decide +kernel
theorem dX8_assign_38 : decode cX8_assign 38 = .ok (.getfield 68, 3) := by decide +kernel
theorem dX8_assign_41 : decode cX8_assign 41 = .ok (.iastore, 1) := by decide +kernel
theorem dX8_assign_42 : decode cX8_assign 42 = .ok (.aload_n 0, 1) := by decide +kernel
theorem dX8_assign_43 : decode cX8_assign 43 = .ok (.getfield 26, 3) := by decide +kernel
theorem dX8_assign_46 : decode cX8_assign 46 = .ok (.aload_n 0, 1) := by decide +kernel
theorem dX8_assign_47 : decode cX8_assign 47 = .ok (.getfield 68, 3) := by decide +kernel
theorem dX8_assign_50 : decode cX8_assign 50 = .ok (.iconst 2, 1) := by decide +kernel
theorem dX8_assign_51 : decode cX8_assign 51 = .ok (.iload_n 1, 1) := by decide +kernel
theorem dX8_assign_52 : decode cX8_assign 52 = .ok (.imul, 1) := by decide +kernel
theorem dX8_assign_53 : decode cX8_assign 53 = .ok (.iload_n 2, 1) := by decide +kernel
theorem dX8_assign_54 : decode cX8_assign 54 = .ok (.ifCond .eq 7, 3) := by decide +kernel
theorem dX8_assign_57 : decode cX8_assign 57 = .ok (.iconst 0, 1) := by decide +kernel
theorem dX8_assign_58 : decode cX8_assign 58 = .ok (.goto 4, 3) := by decide +kernel
theorem dX8_assign_61 : decode cX8_assign 61 = .ok (.iconst 1, 1) := by decide +kernel
theorem dX8_assign_62 : decode cX8_assign 62 = .ok (.iadd, 1) := by decide +kernel
theorem dX8_assign_63 : decode cX8_assign 63 = .ok (.iastore, 1) := by decide +kernel
theorem dX8_assign_64 : decode cX8_assign 64 = .ok (.aload_n 0, 1) := by decide +kernel
theorem dX8_assign_65 : decode cX8_assign 65 = .ok (.dup, 1) := by decide +kernel
theorem dX8_assign_66 : decode cX8_assign 66 = .ok (.getfield 68, 3) := by decide +kernel
theorem dX8_assign_69 : decode cX8_assign 69 = .ok (.iconst 1, 1) := by decide +kernel
theorem dX8_assign_70 : decode cX8_assign 70 = .ok (.iadd, 1) := by decide +kernel
theorem dX8_assign_71 : decode cX8_assign 71 = .ok (.putfield 68, 3) := by decide +kernel
theorem dX8_assign_74 : decode cX8_assign 74 = .ok (.aload_n 0, 1) := by decide +kernel
theorem dX8_assign_75 : decode cX8_assign 75 = .ok (.getfield 29, 3) := by decide +kernel
theorem dX8_assign_78 : decode cX8_assign 78 = .ok (.iload_n 1, 1) := by decide +kernel
theorem dX8_assign_79 : decode cX8_assign 79 = .ok (.aload_n 0, 1) := by decide +kernel
theorem dX8_assign_80 : decode cX8_assign 80 = .ok (.getfield 71, 3) := by decide +kernel
theorem dX8_assign_83 : decode cX8_assign 83 = .ok (.iastore, 1) := by decide +kernel
theorem dX8_assign_84 : decode cX8_assign 84 = .ok (.aload_n 0, 1) := by decide +kernel
theorem dX8_assign_85 : decode cX8_assign 85 = .ok (.getfield 32, 3) := by decide +kernel
theorem dX8_assign_88 : decode cX8_assign 88 = .ok (.iload_n 1, 1) := by decide +kernel
theorem dX8_assign_89 : decode cX8_assign 89 = .ok (.iload_n 3, 1) := by decide +kernel
theorem dX8_assign_90 : decode cX8_assign 90 = .ok (.iastore, 1) := by decide +kernel
theorem dX8_assign_91 : decode cX8_assign 91 = .ok (.return_, 1) := by decide +kernel
theorem dX8_stateOf_0 : decode cX8_stateOf 0 = .ok (.aload_n 1, 1) := by decide +kernel
theorem dX8_stateOf_1 : decode cX8_stateOf 1 = .ok (.iload_n 2, 1) := by decide +kernel
theorem dX8_stateOf_2 : decode cX8_stateOf 2 = .ok (.invokestatic 74, 3) := by decide +kernel
theorem dX8_stateOf_5 : decode cX8_stateOf 5 = .ok (.aload_n 0, 1) := by decide +kernel
theorem dX8_stateOf_6 : decode cX8_stateOf 6 = .ok (.getfield 62, 3) := by decide +kernel
theorem dX8_stateOf_9 : decode cX8_stateOf 9 = .ok (.iconst (-1), 1) := by decide +kernel
theorem dX8_stateOf_10 : decode cX8_stateOf 10 = .ok (.ixor, 1) := by decide +kernel
theorem dX8_stateOf_11 : decode cX8_stateOf 11 = .ok (.iand, 1) := by decide +kernel
theorem dX8_stateOf_12 : decode cX8_stateOf 12 = .ok (.invokestatic 58, 3) := by decide +kernel
theorem dX8_stateOf_15 : decode cX8_stateOf 15 = .ok (.istore_n 3, 1) := by decide +kernel
theorem dX8_stateOf_16 : decode cX8_stateOf 16 = .ok (.aload_n 1, 1) := by decide +kernel
theorem dX8_stateOf_17 : decode cX8_stateOf 17 = .ok (.iconst 1, 1) := by decide +kernel
theorem dX8_stateOf_18 : decode cX8_stateOf 18 = .ok (.iload_n 2, 1) := by decide +kernel
theorem dX8_stateOf_19 : decode cX8_stateOf 19 = .ok (.iadd, 1) := by decide +kernel
theorem dX8_stateOf_20 : decode cX8_stateOf 20 = .ok (.iaload, 1) := by decide +kernel
theorem dX8_stateOf_21 : decode cX8_stateOf 21 = .ok (.iconst 1, 1) := by decide +kernel
theorem dX8_stateOf_22 : decode cX8_stateOf 22 = .ok (.if_icmp .ne 34, 3) := by decide +kernel
theorem dX8_stateOf_25 : decode cX8_stateOf 25 = .ok (.iload_n 3, 1) := by decide +kernel
theorem dX8_stateOf_26 : decode cX8_stateOf 26 = .ok (.iconst 1, 1) := by decide +kernel
theorem dX8_stateOf_27 : decode cX8_stateOf 27 = .ok (.if_icmp .ne 7, 3) := by decide +kernel
theorem dX8_stateOf_30 : decode cX8_stateOf 30 = .ok (.iconst 1, 1) := by decide +kernel
theorem dX8_stateOf_31 : decode cX8_stateOf 31 = .ok (.goto 24, 3) := by decide +kernel
theorem dX8_stateOf_34 : decode cX8_stateOf 34 = .ok (.iload_n 3, 1) := by decide +kernel
theorem dX8_stateOf_35 : decode cX8_stateOf 35 = .ok (.ifCond .ne 19, 3) := by decide +kernel
theorem dX8_stateOf_38 : decode cX8_stateOf 38 = .ok (.aload_n 1, 1) := by decide +kernel
theorem dX8_stateOf_39 : decode cX8_stateOf 39 = .ok (.iload_n 2, 1) := by decide +kernel
theorem dX8_stateOf_40 : decode cX8_stateOf 40 = .ok (.aload_n 0, 1) := by decide +kernel
theorem dX8_stateOf_41 : decode cX8_stateOf 41 = .ok (.getfield 65, 3) := by decide +kernel
theorem dX8_stateOf_44 : decode cX8_stateOf 44 = .ok (.invokestatic 78, 3) := by decide +kernel
theorem dX8_stateOf_47 : decode cX8_stateOf 47 = .ok (.ifCond .ne 7, 3) := by decide +kernel
theorem dX8_stateOf_50 : decode cX8_stateOf 50 = .ok (.iconst 2, 1) := by decide +kernel
theorem dX8_stateOf_51 : decode cX8_stateOf 51 = .ok (.goto 4, 3) := by decide +kernel
theorem dX8_stateOf_54 : decode cX8_stateOf 54 = .ok (.iconst 0, 1) := by decide +kernel
theorem dX8_stateOf_55 : decode cX8_stateOf 55 = .ok (.ireturn, 1) := by decide +kernel
theorem dX8_stateOf_56 : decode cX8_stateOf 56 = .ok (.aload_n 1, 1) := by decide +kernel
theorem dX8_stateOf_57 : decode cX8_stateOf 57 = .ok (.bipush 25, 2) := by decide +kernel
theorem dX8_stateOf_59 : decode cX8_stateOf 59 = .ok (.iload_n 2, 1) := by decide +kernel
theorem dX8_stateOf_60 : decode cX8_stateOf 60 = .ok (.iadd, 1) := by decide +kernel
theorem dX8_stateOf_61 : decode cX8_stateOf 61 = .ok (.iaload, 1) := by decide +kernel
theorem dX8_stateOf_62 : decode cX8_stateOf 62 = .ok (.aload_n 0, 1) := by decide +kernel
theorem dX8_stateOf_63 : decode cX8_stateOf 63 = .ok (.getfield 62, 3) := by decide +kernel
theorem dX8_stateOf_66 : decode cX8_stateOf 66 = .ok (.iand, 1) := by decide +kernel
theorem dX8_stateOf_67 : decode cX8_stateOf 67 = .ok (.aload_n 0, 1) := by decide +kernel
theorem dX8_stateOf_68 : decode cX8_stateOf 68 = .ok (.getfield 65, 3) := by decide +kernel
theorem dX8_stateOf_71 : decode cX8_stateOf 71 = .ok (.iand, 1) := by decide +kernel
theorem dX8_stateOf_72 : decode cX8_stateOf 72 = .ok (.ifCond .ne 24, 3) := by decide +kernel
theorem dX8_stateOf_75 : decode cX8_stateOf 75 = .ok (.aload_n 1, 1) := by decide +kernel
theorem dX8_stateOf_76 : decode cX8_stateOf 76 = .ok (.bipush 49, 2) := by decide +kernel
theorem dX8_stateOf_78 : decode cX8_stateOf 78 = .ok (.iload_n 2, 1) := by decide +kernel
theorem dX8_stateOf_79 : decode cX8_stateOf 79 = .ok (.iadd, 1) := by decide +kernel
theorem dX8_stateOf_80 : decode cX8_stateOf 80 = .ok (.iaload, 1) := by decide +kernel
theorem dX8_stateOf_81 : decode cX8_stateOf 81 = .ok (.aload_n 0, 1) := by decide +kernel
theorem dX8_stateOf_82 : decode cX8_stateOf 82 = .ok (.getfield 62, 3) := by decide +kernel
theorem dX8_stateOf_85 : decode cX8_stateOf 85 = .ok (.iand, 1) := by decide +kernel
theorem dX8_stateOf_86 : decode cX8_stateOf 86 = .ok (.aload_n 0, 1) := by decide +kernel
theorem dX8_stateOf_87 : decode cX8_stateOf 87 = .ok (.getfield 65, 3) := by decide +kernel
theorem dX8_stateOf_90 : decode cX8_stateOf 90 = .ok (.iconst (-1), 1) := by decide +kernel
theorem dX8_stateOf_91 : decode cX8_stateOf 91 = .ok (.ixor, 1) := by decide +kernel
theorem dX8_stateOf_92 : decode cX8_stateOf 92 = .ok (.iand, 1) := by decide +kernel
theorem dX8_stateOf_93 : decode cX8_stateOf 93 = .ok (.ifCond .eq 7, 3) := by decide +kernel
theorem dX8_stateOf_96 : decode cX8_stateOf 96 = .ok (.iconst 1, 1) := by decide +kernel
theorem dX8_stateOf_97 : decode cX8_stateOf 97 = .ok (.goto 4, 3) := by decide +kernel
theorem dX8_stateOf_100 : decode cX8_stateOf 100 = .ok (.iconst 0, 1) := by decide +kernel
theorem dX8_stateOf_101 : decode cX8_stateOf 101 = .ok (.istore 4, 2) := by decide +kernel
theorem dX8_stateOf_103 : decode cX8_stateOf 103 = .ok (.iload 4, 2) := by decide +kernel
theorem dX8_stateOf_105 : decode cX8_stateOf 105 = .ok (.ifCond .ne 8, 3) := by decide +kernel
theorem dX8_stateOf_108 : decode cX8_stateOf 108 = .ok (.iload_n 3, 1) := by decide +kernel
theorem dX8_stateOf_109 : decode cX8_stateOf 109 = .ok (.iconst 1, 1) := by decide +kernel
theorem dX8_stateOf_110 : decode cX8_stateOf 110 = .ok (.if_icmp .le 7, 3) := by decide +kernel
theorem dX8_stateOf_113 : decode cX8_stateOf 113 = .ok (.iconst 0, 1) := by decide +kernel
theorem dX8_stateOf_114 : decode cX8_stateOf 114 = .ok (.goto 13, 3) := by decide +kernel
theorem dX8_stateOf_117 : decode cX8_stateOf 117 = .ok (.iload_n 3, 1) := by decide +kernel
theorem dX8_stateOf_118 : decode cX8_stateOf 118 = .ok (.iconst 1, 1) := by decide +kernel
theorem dX8_stateOf_119 : decode cX8_stateOf 119 = .ok (.if_icmp .ne 7, 3) := by decide +kernel
theorem dX8_stateOf_122 : decode cX8_stateOf 122 = .ok (.iconst 1, 1) := by decide +kernel
theorem dX8_stateOf_123 : decode cX8_stateOf 123 = .ok (.goto 4, 3) := by decide +kernel
theorem dX8_stateOf_126 : decode cX8_stateOf 126 = .ok (.iconst 2, 1) := by decide +kernel
theorem dX8_stateOf_127 : decode cX8_stateOf 127 = .ok (.ireturn, 1) := by decide +kernel
theorem dX8_propagate_0 : decode cX8_propagate 0 = .ok (.iconst 1, 1) := by decide +kernel
theorem dX8_propagate_1 : decode cX8_propagate 1 = .ok (.istore_n 2, 1) := by decide +kernel
theorem dX8_propagate_2 : decode cX8_propagate 2 = .ok (.iload_n 2, 1) := by decide +kernel
theorem dX8_propagate_3 : decode cX8_propagate 3 = .ok (.ifCond .eq 143, 3) := by decide +kernel
theorem dX8_propagate_6 : decode cX8_propagate 6 = .ok (.bipush (-9), 2) := by decide +kernel
theorem dX8_propagate_8 : decode cX8_propagate 8 = .ok (.istore_n 3, 1) := by decide +kernel
theorem dX8_propagate_9 : decode cX8_propagate 9 = .ok (.aload_n 1, 1) := by decide +kernel
theorem dX8_propagate_10 : decode cX8_propagate 10 = .ok (.iconst 0, 1) := by decide +kernel
theorem dX8_propagate_11 : decode cX8_propagate 11 = .ok (.iaload, 1) := by decide +kernel
theorem dX8_propagate_12 : decode cX8_propagate 12 = .ok (.iconst 1, 1) := by decide +kernel
theorem dX8_propagate_13 : decode cX8_propagate 13 = .ok (.isub, 1) := by decide +kernel
theorem dX8_propagate_14 : decode cX8_propagate 14 = .ok (.istore 4, 2) := by decide +kernel
theorem dX8_propagate_16 : decode cX8_propagate 16 = .ok (.iload 4, 2) := by decide +kernel
theorem dX8_propagate_18 : decode cX8_propagate 18 = .ok (.ifCond .lt 26, 3) := by decide +kernel
theorem dX8_propagate_21 : decode cX8_propagate 21 = .ok (.aload_n 0, 1) := by decide +kernel
theorem dX8_propagate_22 : decode cX8_propagate 22 = .ok (.aload_n 1, 1) := by decide +kernel
theorem dX8_propagate_23 : decode cX8_propagate 23 = .ok (.iload 4, 2) := by decide +kernel
theorem dX8_propagate_25 : decode cX8_propagate 25 = .ok (.invokevirtual 82, 3) := by decide +kernel
theorem dX8_propagate_28 : decode cX8_propagate 28 = .ok (.ifCond .le 8, 3) := by decide +kernel
theorem dX8_propagate_31 : decode cX8_propagate 31 = .ok (.iload 4, 2) := by decide +kernel
theorem dX8_propagate_33 : decode cX8_propagate 33 = .ok (.goto 4, 3) := by decide +kernel
theorem dX8_propagate_36 : decode cX8_propagate 36 = .ok (.iload_n 3, 1) := by decide +kernel
theorem dX8_propagate_37 : decode cX8_propagate 37 = .ok (.istore_n 3, 1) := by decide +kernel
theorem dX8_propagate_38 : decode cX8_propagate 38 = .ok (.iinc 4 (-1), 3) := by decide +kernel
theorem dX8_propagate_41 : decode cX8_propagate 41 = .ok (.goto (-25), 3) := by decide +kernel
theorem dX8_propagate_44 : decode cX8_propagate 44 = .ok (.iconst 0, 1) := by decide +kernel
theorem dX8_propagate_45 : decode cX8_propagate 45 = .ok (.istore_n 2, 1) := by decide +kernel
theorem dX8_propagate_46 : decode cX8_propagate 46 = .ok (.iload_n 3, 1) := by decide +kernel
theorem dX8_propagate_47 : decode cX8_propagate 47 = .ok (.bipush (-9), 2) := by decide +kernel
theorem dX8_propagate_49 : decode cX8_propagate 49 = .ok (.if_icmp .eq 21, 3) := by decide +kernel
theorem dX8_propagate_52 : decode cX8_propagate 52 = .ok (.aload_n 0, 1) := by decide +kernel
theorem dX8_propagate_53 : decode cX8_propagate 53 = .ok (.aload_n 1, 1) := by decide +kernel
theorem dX8_propagate_54 : decode cX8_propagate 54 = .ok (.iload_n 3, 1) := by decide +kernel
theorem dX8_propagate_55 : decode cX8_propagate 55 = .ok (.invokevirtual 82, 3) := by decide +kernel
theorem dX8_propagate_58 : decode cX8_propagate 58 = .ok (.iconst 2, 1) := by decide +kernel
theorem dX8_propagate_59 : decode cX8_propagate 59 = .ok (.if_icmp .ne 11, 3) := by decide +kernel
theorem dX8_propagate_62 : decode cX8_propagate 62 = .ok (.aload_n 0, 1) := by decide +kernel
theorem dX8_propagate_63 : decode cX8_propagate 63 = .ok (.iload_n 3, 1) := by decide +kernel
theorem dX8_propagate_64 : decode cX8_propagate 64 = .ok (.putfield 38, 3) := by decide +kernel
theorem dX8_propagate_67 : decode cX8_propagate 67 = .ok (.goto 76, 3) := by decide +kernel
theorem dX8_propagate_70 : decode cX8_propagate 70 = .ok (.iload_n 3, 1) := by decide +kernel
theorem dX8_propagate_71 : decode cX8_propagate 71 = .ok (.bipush (-9), 2) := by decide +kernel
theorem dX8_propagate_73 : decode cX8_propagate 73 = .ok (.if_icmp .eq 70, 3) := by decide +kernel
theorem dX8_propagate_76 : decode cX8_propagate 76 = .ok (.aload_n 1, 1) := by decide +kernel
theorem dX8_propagate_77 : decode cX8_propagate 77 = .ok (.iload_n 3, 1) := by decide +kernel
theorem dX8_propagate_78 : decode cX8_propagate 78 = .ok (.invokestatic 74, 3) := by decide +kernel
theorem dX8_propagate_81 : decode cX8_propagate 81 = .ok (.aload_n 0, 1) := by decide +kernel
theorem dX8_propagate_82 : decode cX8_propagate 82 = .ok (.getfield 62, 3) := by decide +kernel
theorem dX8_propagate_85 : decode cX8_propagate 85 = .ok (.iconst (-1), 1) := by decide +kernel
theorem dX8_propagate_86 : decode cX8_propagate 86 = .ok (.ixor, 1) := by decide +kernel
theorem dX8_propagate_87 : decode cX8_propagate 87 = .ok (.iand, 1) := by decide +kernel
theorem dX8_propagate_88 : decode cX8_propagate 88 = .ok (.invokestatic 85, 3) := by decide +kernel
theorem dX8_propagate_91 : decode cX8_propagate 91 = .ok (.istore 4, 2) := by decide +kernel
theorem dX8_propagate_93 : decode cX8_propagate 93 = .ok (.aload_n 1, 1) := by decide +kernel
theorem dX8_propagate_94 : decode cX8_propagate 94 = .ok (.iconst 1, 1) := by decide +kernel
theorem dX8_propagate_95 : decode cX8_propagate 95 = .ok (.iload_n 3, 1) := by decide +kernel
theorem dX8_propagate_96 : decode cX8_propagate 96 = .ok (.iadd, 1) := by decide +kernel
theorem dX8_propagate_97 : decode cX8_propagate 97 = .ok (.iaload, 1) := by decide +kernel
theorem dX8_propagate_98 : decode cX8_propagate 98 = .ok (.iconst 1, 1) := by decide +kernel
theorem dX8_propagate_99 : decode cX8_propagate 99 = .ok (.if_icmp .ne 20, 3) := by decide +kernel
theorem dX8_propagate_102 : decode cX8_propagate 102 = .ok (.aload_n 1, 1) := by decide +kernel
theorem dX8_propagate_103 : decode cX8_propagate 103 = .ok (.iload_n 3, 1) := by decide +kernel
theorem dX8_propagate_104 : decode cX8_propagate 104 = .ok (.aload_n 0, 1) := by decide +kernel
theorem dX8_propagate_105 : decode cX8_propagate 105 = .ok (.getfield 65, 3) := by decide +kernel
theorem dX8_propagate_108 : decode cX8_propagate 108 = .ok (.iconst 1, 1) := by decide +kernel
theorem dX8_propagate_109 : decode cX8_propagate 109 = .ok (.iload 4, 2) := by decide +kernel
theorem dX8_propagate_111 : decode cX8_propagate 111 = .ok (.ishl, 1) := by decide +kernel
theorem dX8_propagate_112 : decode cX8_propagate 112 = .ok (.ior, 1) := by decide +kernel
theorem dX8_propagate_113 : decode cX8_propagate 113 = .ok (.invokestatic 78, 3) := by decide +kernel
theorem dX8_propagate_116 : decode cX8_propagate 116 = .ok (.goto 14, 3) := by decide +kernel
theorem dX8_propagate_119 : decode cX8_propagate 119 = .ok (.aload_n 1, 1) := by decide +kernel
theorem dX8_propagate_120 : decode cX8_propagate 120 = .ok (.bipush 25, 2) := by decide +kernel
theorem dX8_propagate_122 : decode cX8_propagate 122 = .ok (.iload_n 3, 1) := by decide +kernel
theorem dX8_propagate_123 : decode cX8_propagate 123 = .ok (.iadd, 1) := by decide +kernel
theorem dX8_propagate_124 : decode cX8_propagate 124 = .ok (.iaload, 1) := by decide +kernel
theorem dX8_propagate_125 : decode cX8_propagate 125 = .ok (.iload 4, 2) := by decide +kernel
theorem dX8_propagate_127 : decode cX8_propagate 127 = .ok (.invokestatic 54, 3) := by decide +kernel
theorem dX8_propagate_130 : decode cX8_propagate 130 = .ok (.istore 5, 2) := by decide +kernel
theorem dX8_propagate_132 : decode cX8_propagate 132 = .ok (.aload_n 0, 1) := by decide +kernel
theorem dX8_propagate_133 : decode cX8_propagate 133 = .ok (.iload 4, 2) := by decide +kernel
theorem dX8_propagate_135 : decode cX8_propagate 135 = .ok (.iload 5, 2) := by decide +kernel
theorem dX8_propagate_137 : decode cX8_propagate 137 = .ok (.iload_n 3, 1) := by decide +kernel
theorem dX8_propagate_138 : decode cX8_propagate 138 = .ok (.invokevirtual 88, 3) := by decide +kernel
theorem dX8_propagate_141 : decode cX8_propagate 141 = .ok (.iconst 1, 1) := by decide +kernel
theorem dX8_propagate_142 : decode cX8_propagate 142 = .ok (.istore_n 2, 1) := by decide +kernel
theorem dX8_propagate_143 : decode cX8_propagate 143 = .ok (.goto (-141), 3) := by decide +kernel
theorem dX8_propagate_146 : decode cX8_propagate 146 = .ok (.return_, 1) := by decide +kernel
theorem dX8_build_0 : decode cX8_build 0 = .ok (.aload_n 0, 1) := by decide +kernel
theorem dX8_build_1 : decode cX8_build 1 = .ok (.iconst 0, 1) := by decide +kernel
theorem dX8_build_2 : decode cX8_build 2 = .ok (.putfield 62, 3) := by decide +kernel
theorem dX8_build_5 : decode cX8_build 5 = .ok (.aload_n 0, 1) := by decide +kernel
theorem dX8_build_6 : decode cX8_build 6 = .ok (.iconst 0, 1) := by decide +kernel
theorem dX8_build_7 : decode cX8_build 7 = .ok (.putfield 65, 3) := by decide +kernel
theorem dX8_build_10 : decode cX8_build 10 = .ok (.aload_n 0, 1) := by decide +kernel
theorem dX8_build_11 : decode cX8_build 11 = .ok (.iconst 0, 1) := by decide +kernel
theorem dX8_build_12 : decode cX8_build 12 = .ok (.putfield 68, 3) := by decide +kernel
theorem dX8_build_15 : decode cX8_build 15 = .ok (.aload_n 0, 1) := by decide +kernel
theorem dX8_build_16 : decode cX8_build 16 = .ok (.iconst 0, 1) := by decide +kernel
theorem dX8_build_17 : decode cX8_build 17 = .ok (.putfield 71, 3) := by decide +kernel
theorem dX8_build_20 : decode cX8_build 20 = .ok (.aload_n 0, 1) := by decide +kernel
theorem dX8_build_21 : decode cX8_build 21 = .ok (.bipush (-9), 2) := by decide +kernel
theorem dX8_build_23 : decode cX8_build 23 = .ok (.putfield 38, 3) := by decide +kernel
theorem dX8_build_26 : decode cX8_build 26 = .ok (.iconst 0, 1) := by decide +kernel
theorem dX8_build_27 : decode cX8_build 27 = .ok (.istore_n 2, 1) := by decide +kernel
theorem dX8_build_28 : decode cX8_build 28 = .ok (.iload_n 2, 1) := by decide +kernel
theorem dX8_build_29 : decode cX8_build 29 = .ok (.bipush 8, 2) := by decide +kernel
theorem dX8_build_31 : decode cX8_build 31 = .ok (.if_icmp .ge 17, 3) := by decide +kernel
theorem dX8_build_34 : decode cX8_build 34 = .ok (.aload_n 0, 1) := by decide +kernel
theorem dX8_build_35 : decode cX8_build 35 = .ok (.getfield 32, 3) := by decide +kernel
theorem dX8_build_38 : decode cX8_build 38 = .ok (.iload_n 2, 1) := by decide +kernel
theorem dX8_build_39 : decode cX8_build 39 = .ok (.bipush (-9), 2) := by decide +kernel
theorem dX8_build_41 : decode cX8_build 41 = .ok (.iastore, 1) := by decide +kernel
theorem dX8_build_42 : decode cX8_build 42 = .ok (.iinc 2 1, 3) := by decide +kernel
theorem dX8_build_45 : decode cX8_build 45 = .ok (.goto (-17), 3) := by decide +kernel
theorem dX8_build_48 : decode cX8_build 48 = .ok (.aload_n 0, 1) := by decide +kernel
theorem dX8_build_49 : decode cX8_build 49 = .ok (.aload_n 1, 1) := by decide +kernel
theorem dX8_build_50 : decode cX8_build 50 = .ok (.invokevirtual 92, 3) := by decide +kernel
theorem dX8_build_53 : decode cX8_build 53 = .ok (.aload_n 1, 1) := by decide +kernel
theorem dX8_build_54 : decode cX8_build 54 = .ok (.bipush 73, 2) := by decide +kernel
theorem dX8_build_56 : decode cX8_build 56 = .ok (.iaload, 1) := by decide +kernel
theorem dX8_build_57 : decode cX8_build 57 = .ok (.istore_n 2, 1) := by decide +kernel
theorem dX8_build_58 : decode cX8_build 58 = .ok (.aload_n 1, 1) := by decide +kernel
theorem dX8_build_59 : decode cX8_build 59 = .ok (.bipush 73, 2) := by decide +kernel
theorem dX8_build_61 : decode cX8_build 61 = .ok (.iconst 0, 1) := by decide +kernel
theorem dX8_build_62 : decode cX8_build 62 = .ok (.iastore, 1) := by decide +kernel
theorem dX8_build_63 : decode cX8_build 63 = .ok (.iconst 0, 1) := by decide +kernel
theorem dX8_build_64 : decode cX8_build 64 = .ok (.istore_n 3, 1) := by decide +kernel
theorem dX8_build_65 : decode cX8_build 65 = .ok (.iload_n 3, 1) := by decide +kernel
theorem dX8_build_66 : decode cX8_build 66 = .ok (.iload_n 2, 1) := by decide +kernel
theorem dX8_build_67 : decode cX8_build 67 = .ok (.if_icmp .ge 93, 3) := by decide +kernel
theorem dX8_build_70 : decode cX8_build 70 = .ok (.aload_n 1, 1) := by decide +kernel
theorem dX8_build_71 : decode cX8_build 71 = .ok (.bipush 74, 2) := by decide +kernel
theorem dX8_build_73 : decode cX8_build 73 = .ok (.iload_n 3, 1) := by decide +kernel
theorem dX8_build_74 : decode cX8_build 74 = .ok (.iadd, 1) := by decide +kernel
theorem dX8_build_75 : decode cX8_build 75 = .ok (.iaload, 1) := by decide +kernel
theorem dX8_build_76 : decode cX8_build 76 = .ok (.istore 4, 2) := by decide +kernel
theorem dX8_build_78 : decode cX8_build 78 = .ok (.aload_n 1, 1) := by decide +kernel
theorem dX8_build_79 : decode cX8_build 79 = .ok (.bipush 73, 2) := by decide +kernel
theorem dX8_build_81 : decode cX8_build 81 = .ok (.iaload, 1) := by decide +kernel
theorem dX8_build_82 : decode cX8_build 82 = .ok (.iload_n 3, 1) := by decide +kernel
theorem dX8_build_83 : decode cX8_build 83 = .ok (.if_icmp .ne 71, 3) := by decide +kernel
theorem dX8_build_86 : decode cX8_build 86 = .ok (.aload_n 0, 1) := by decide +kernel
theorem dX8_build_87 : decode cX8_build 87 = .ok (.getfield 38, 3) := by decide +kernel
theorem dX8_build_90 : decode cX8_build 90 = .ok (.bipush (-9), 2) := by decide +kernel
theorem dX8_build_92 : decode cX8_build 92 = .ok (.if_icmp .ne 62, 3) := by decide +kernel
theorem dX8_build_95 : decode cX8_build 95 = .ok (.aload_n 0, 1) := by decide +kernel
theorem dX8_build_96 : decode cX8_build 96 = .ok (.getfield 62, 3) := by decide +kernel
theorem dX8_build_99 : decode cX8_build 99 = .ok (.iload 4, 2) := by decide +kernel
theorem dX8_build_101 : decode cX8_build 101 = .ok (.iconst 2, 1) := by decide +kernel
theorem dX8_build_102 : decode cX8_build 102 = .ok (.idiv, 1) := by decide +kernel
theorem dX8_build_103 : decode cX8_build 103 = .ok (.invokestatic 54, 3) := by decide +kernel
theorem dX8_build_106 : decode cX8_build 106 = .ok (.ifCond .ne 48, 3) := by decide +kernel
theorem dX8_build_109 : decode cX8_build 109 = .ok (.aload_n 1, 1) := by decide +kernel
theorem dX8_build_110 : decode cX8_build 110 = .ok (.bipush 73, 2) := by decide +kernel
theorem dX8_build_112 : decode cX8_build 112 = .ok (.dup2, 1) := by decide +kernel
theorem dX8_build_113 : decode cX8_build 113 = .ok (.iaload, 1) := by decide +kernel
theorem dX8_build_114 : decode cX8_build 114 = .ok (.iconst 1, 1) := by decide +kernel
theorem dX8_build_115 : decode cX8_build 115 = .ok (.iadd, 1) := by decide +kernel
theorem dX8_build_116 : decode cX8_build 116 = .ok (.iastore, 1) := by decide +kernel
theorem dX8_build_117 : decode cX8_build 117 = .ok (.aload_n 0, 1) := by decide +kernel
theorem dX8_build_118 : decode cX8_build 118 = .ok (.dup, 1) := by decide +kernel
theorem dX8_build_119 : decode cX8_build 119 = .ok (.getfield 71, 3) := by decide +kernel
theorem dX8_build_122 : decode cX8_build 122 = .ok (.iconst 1, 1) := by decide +kernel
theorem dX8_build_123 : decode cX8_build 123 = .ok (.iadd, 1) := by decide +kernel
theorem dX8_build_124 : decode cX8_build 124 = .ok (.putfield 71, 3) := by decide +kernel
theorem dX8_build_127 : decode cX8_build 127 = .ok (.aload_n 0, 1) := by decide +kernel
theorem dX8_build_128 : decode cX8_build 128 = .ok (.iload 4, 2) := by decide +kernel
theorem dX8_build_130 : decode cX8_build 130 = .ok (.iconst 2, 1) := by decide +kernel
theorem dX8_build_131 : decode cX8_build 131 = .ok (.idiv, 1) := by decide +kernel
theorem dX8_build_132 : decode cX8_build 132 = .ok (.iload 4, 2) := by decide +kernel
theorem dX8_build_134 : decode cX8_build 134 = .ok (.iconst 2, 1) := by decide +kernel
theorem dX8_build_135 : decode cX8_build 135 = .ok (.irem, 1) := by decide +kernel
theorem dX8_build_136 : decode cX8_build 136 = .ok (.ifCond .ne 7, 3) := by decide +kernel
theorem dX8_build_139 : decode cX8_build 139 = .ok (.iconst 1, 1) := by decide +kernel
theorem dX8_build_140 : decode cX8_build 140 = .ok (.goto 4, 3) := by decide +kernel
theorem dX8_build_143 : decode cX8_build 143 = .ok (.iconst 0, 1) := by decide +kernel
theorem dX8_build_144 : decode cX8_build 144 = .ok (.bipush (-9), 2) := by decide +kernel
theorem dX8_build_146 : decode cX8_build 146 = .ok (.invokevirtual 88, 3) := by decide +kernel
theorem dX8_build_149 : decode cX8_build 149 = .ok (.aload_n 0, 1) := by decide +kernel
theorem dX8_build_150 : decode cX8_build 150 = .ok (.aload_n 1, 1) := by decide +kernel
theorem dX8_build_151 : decode cX8_build 151 = .ok (.invokevirtual 92, 3) := by decide +kernel
theorem dX8_build_154 : decode cX8_build 154 = .ok (.iinc 3 1, 3) := by decide +kernel
theorem dX8_build_157 : decode cX8_build 157 = .ok (.goto (-92), 3) := by decide +kernel
theorem dX8_build_160 : decode cX8_build 160 = .ok (.aload_n 1, 1) := by decide +kernel
theorem dX8_build_161 : decode cX8_build 161 = .ok (.bipush 73, 2) := by decide +kernel
theorem dX8_build_163 : decode cX8_build 163 = .ok (.iaload, 1) := by decide +kernel
theorem dX8_build_164 : decode cX8_build 164 = .ok (.istore_n 3, 1) := by decide +kernel
theorem dX8_build_165 : decode cX8_build 165 = .ok (.iload_n 3, 1) := by decide +kernel
theorem dX8_build_166 : decode cX8_build 166 = .ok (.bipush 8, 2) := by decide +kernel
theorem dX8_build_168 : decode cX8_build 168 = .ok (.if_icmp .ge 16, 3) := by decide +kernel
theorem dX8_build_171 : decode cX8_build 171 = .ok (.aload_n 1, 1) := by decide +kernel
theorem dX8_build_172 : decode cX8_build 172 = .ok (.bipush 74, 2) := by decide +kernel
theorem dX8_build_174 : decode cX8_build 174 = .ok (.iload_n 3, 1) := by decide +kernel
theorem dX8_build_175 : decode cX8_build 175 = .ok (.iadd, 1) := by decide +kernel
theorem dX8_build_176 : decode cX8_build 176 = .ok (.iconst 0, 1) := by decide +kernel
theorem dX8_build_177 : decode cX8_build 177 = .ok (.iastore, 1) := by decide +kernel
theorem dX8_build_178 : decode cX8_build 178 = .ok (.iinc 3 1, 3) := by decide +kernel
theorem dX8_build_181 : decode cX8_build 181 = .ok (.goto (-16), 3) := by decide +kernel
theorem dX8_build_184 : decode cX8_build 184 = .ok (.return_, 1) := by decide +kernel
theorem dX8_act_0 : decode cX8_act 0 = .ok (.iconst 0, 1) := by decide +kernel
theorem dX8_act_1 : decode cX8_act 1 = .ok (.istore_n 1, 1) := by decide +kernel
theorem dX8_act_2 : decode cX8_act 2 = .ok (.iload_n 1, 1) := by decide +kernel
theorem dX8_act_3 : decode cX8_act 3 = .ok (.bipush 82, 2) := by decide +kernel
theorem dX8_act_5 : decode cX8_act 5 = .ok (.if_icmp .ge 29, 3) := by decide +kernel
theorem dX8_act_8 : decode cX8_act 8 = .ok (.aload_n 0, 1) := by decide +kernel
theorem dX8_act_9 : decode cX8_act 9 = .ok (.getfield 16, 3) := by decide +kernel
theorem dX8_act_12 : decode cX8_act 12 = .ok (.bipush 82, 2) := by decide +kernel
theorem dX8_act_14 : decode cX8_act 14 = .ok (.aload_n 0, 1) := by decide +kernel
theorem dX8_act_15 : decode cX8_act 15 = .ok (.getfield 96, 3) := by decide +kernel
theorem dX8_act_18 : decode cX8_act 18 = .ok (.imul, 1) := by decide +kernel
theorem dX8_act_19 : decode cX8_act 19 = .ok (.iload_n 1, 1) := by decide +kernel
theorem dX8_act_20 : decode cX8_act 20 = .ok (.iadd, 1) := by decide +kernel
theorem dX8_act_21 : decode cX8_act 21 = .ok (.aload_n 0, 1) := by decide +kernel
theorem dX8_act_22 : decode cX8_act 22 = .ok (.getfield 7, 3) := by decide +kernel
theorem dX8_act_25 : decode cX8_act 25 = .ok (.iload_n 1, 1) := by decide +kernel
theorem dX8_act_26 : decode cX8_act 26 = .ok (.iaload, 1) := by decide +kernel
theorem dX8_act_27 : decode cX8_act 27 = .ok (.iastore, 1) := by decide +kernel
theorem dX8_act_28 : decode cX8_act 28 = .ok (.iinc 1 1, 3) := by decide +kernel
theorem dX8_act_31 : decode cX8_act 31 = .ok (.goto (-29), 3) := by decide +kernel
theorem dX8_act_34 : decode cX8_act 34 = .ok (.aload_n 0, 1) := by decide +kernel
theorem dX8_act_35 : decode cX8_act 35 = .ok (.aload_n 0, 1) := by decide +kernel
theorem dX8_act_36 : decode cX8_act 36 = .ok (.getfield 96, 3) := by decide +kernel
theorem dX8_act_39 : decode cX8_act 39 = .ok (.iconst 1, 1) := by decide +kernel
theorem dX8_act_40 : decode cX8_act 40 = .ok (.iadd, 1) := by decide +kernel
theorem dX8_act_41 : decode cX8_act 41 = .ok (.bipush 14, 2) := by decide +kernel
theorem dX8_act_43 : decode cX8_act 43 = .ok (.irem, 1) := by decide +kernel
theorem dX8_act_44 : decode cX8_act 44 = .ok (.putfield 96, 3) := by decide +kernel
theorem dX8_act_47 : decode cX8_act 47 = .ok (.aload_n 0, 1) := by decide +kernel
theorem dX8_act_48 : decode cX8_act 48 = .ok (.aload_n 0, 1) := by decide +kernel
theorem dX8_act_49 : decode cX8_act 49 = .ok (.getfield 99, 3) := by decide +kernel
theorem dX8_act_52 : decode cX8_act 52 = .ok (.bipush 14, 2) := by decide +kernel
theorem dX8_act_54 : decode cX8_act 54 = .ok (.if_icmp .ge 12, 3) := by decide +kernel
theorem dX8_act_57 : decode cX8_act 57 = .ok (.aload_n 0, 1) := by decide +kernel
theorem dX8_act_58 : decode cX8_act 58 = .ok (.getfield 99, 3) := by decide +kernel
theorem dX8_act_61 : decode cX8_act 61 = .ok (.iconst 1, 1) := by decide +kernel
theorem dX8_act_62 : decode cX8_act 62 = .ok (.iadd, 1) := by decide +kernel
theorem dX8_act_63 : decode cX8_act 63 = .ok (.goto 5, 3) := by decide +kernel
theorem dX8_act_66 : decode cX8_act 66 = .ok (.bipush 14, 2) := by decide +kernel
theorem dX8_act_68 : decode cX8_act 68 = .ok (.putfield 99, 3) := by decide +kernel
theorem dX8_act_71 : decode cX8_act 71 = .ok (.aload_n 0, 1) := by decide +kernel
theorem dX8_act_72 : decode cX8_act 72 = .ok (.getfield 13, 3) := by decide +kernel
theorem dX8_act_75 : decode cX8_act 75 = .ok (.aload_n 0, 1) := by decide +kernel
theorem dX8_act_76 : decode cX8_act 76 = .ok (.getfield 7, 3) := by decide +kernel
theorem dX8_act_79 : decode cX8_act 79 = .ok (.invokestatic 102, 3) := by decide +kernel
theorem dX8_act_82 : decode cX8_act 82 = .ok (.aload_n 0, 1) := by decide +kernel
theorem dX8_act_83 : decode cX8_act 83 = .ok (.aload_n 0, 1) := by decide +kernel
theorem dX8_act_84 : decode cX8_act 84 = .ok (.getfield 7, 3) := by decide +kernel
theorem dX8_act_87 : decode cX8_act 87 = .ok (.invokevirtual 106, 3) := by decide +kernel
theorem dX8_act_90 : decode cX8_act 90 = .ok (.return_, 1) := by decide +kernel
theorem dX8_append_0 : decode cX8_append 0 = .ok (.aload_n 0, 1) := by decide +kernel
theorem dX8_append_1 : decode cX8_append 1 = .ok (.iload_n 1, 1) := by decide +kernel
theorem dX8_append_2 : decode cX8_append 2 = .ok (.i2l, 1) := by decide +kernel
theorem dX8_append_3 : decode cX8_append 3 = .ok (.lconst 0, 1) := by decide +kernel
theorem dX8_append_4 : decode cX8_append 4 = .ok (.ldc2_w 109, 3) := by decide +kernel
theorem dX8_append_7 : decode cX8_append 7 = .ok (.invokestatic 111, 3) := by decide +kernel
theorem dX8_append_10 : decode cX8_append 10 = .ok (.ifCond .ne 7, 3) := by decide +kernel
theorem dX8_append_13 : decode cX8_append 13 = .ok (.iconst 1, 1) := by decide +kernel
theorem dX8_append_14 : decode cX8_append 14 = .ok (.goto 17, 3) := by decide +kernel
theorem dX8_append_17 : decode cX8_append 17 = .ok (.aload_n 0, 1) := by decide +kernel
theorem dX8_append_18 : decode cX8_append 18 = .ok (.getfield 115, 3) := by decide +kernel
theorem dX8_append_21 : decode cX8_append 21 = .ok (.bipush 90, 2) := by decide +kernel
theorem dX8_append_23 : decode cX8_append 23 = .ok (.if_icmp .ne 7, 3) := by decide +kernel
theorem dX8_append_26 : decode cX8_append 26 = .ok (.iconst 2, 1) := by decide +kernel
theorem dX8_append_27 : decode cX8_append 27 = .ok (.goto 4, 3) := by decide +kernel
theorem dX8_append_30 : decode cX8_append 30 = .ok (.iconst 0, 1) := by decide +kernel
theorem dX8_append_31 : decode cX8_append 31 = .ok (.invokevirtual 118, 3) := by decide +kernel
theorem dX8_append_34 : decode cX8_append 34 = .ok (.ifCond .eq 5, 3) := by decide +kernel
theorem dX8_append_37 : decode cX8_append 37 = .ok (.iconst 0, 1) := by decide +kernel
theorem dX8_append_38 : decode cX8_append 38 = .ok (.ireturn, 1) := by decide +kernel
theorem dX8_append_39 : decode cX8_append 39 = .ok (.aload_n 0, 1) := by decide +kernel
theorem dX8_append_40 : decode cX8_append 40 = .ok (.getfield 42, 3) := by decide +kernel
theorem dX8_append_43 : decode cX8_append 43 = .ok (.aload_n 0, 1) := by decide +kernel
theorem dX8_append_44 : decode cX8_append 44 = .ok (.getfield 115, 3) := by decide +kernel
theorem dX8_append_47 : decode cX8_append 47 = .ok (.iload_n 1, 1) := by decide +kernel
theorem dX8_append_48 : decode cX8_append 48 = .ok (.iastore, 1) := by decide +kernel
theorem dX8_append_49 : decode cX8_append 49 = .ok (.aload_n 0, 1) := by decide +kernel
theorem dX8_append_50 : decode cX8_append 50 = .ok (.dup, 1) := by decide +kernel
theorem dX8_append_51 : decode cX8_append 51 = .ok (.getfield 115, 3) := by decide +kernel
theorem dX8_append_54 : decode cX8_append 54 = .ok (.iconst 1, 1) := by decide +kernel
theorem dX8_append_55 : decode cX8_append 55 = .ok (.iadd, 1) := by decide +kernel
theorem dX8_append_56 : decode cX8_append 56 = .ok (.putfield 115, 3) := by decide +kernel
theorem dX8_append_59 : decode cX8_append 59 = .ok (.aload_n 0, 1) := by decide +kernel
theorem dX8_append_60 : decode cX8_append 60 = .ok (.getfield 115, 3) := by decide +kernel
theorem dX8_append_63 : decode cX8_append 63 = .ok (.ireturn, 1) := by decide +kernel
theorem dX8_clearText_0 : decode cX8_clearText 0 = .ok (.aload_n 0, 1) := by decide +kernel
theorem dX8_clearText_1 : decode cX8_clearText 1 = .ok (.iconst 0, 1) := by decide +kernel
theorem dX8_clearText_2 : decode cX8_clearText 2 = .ok (.putfield 51, 3) := by decide +kernel
theorem dX8_clearText_5 : decode cX8_clearText 5 = .ok (.aload_n 0, 1) := by decide +kernel
theorem dX8_clearText_6 : decode cX8_clearText 6 = .ok (.getfield 115, 3) := by decide +kernel
theorem dX8_clearText_9 : decode cX8_clearText 9 = .ok (.istore_n 1, 1) := by decide +kernel
theorem dX8_clearText_10 : decode cX8_clearText 10 = .ok (.aload_n 0, 1) := by decide +kernel
theorem dX8_clearText_11 : decode cX8_clearText 11 = .ok (.iconst 0, 1) := by decide +kernel
theorem dX8_clearText_12 : decode cX8_clearText 12 = .ok (.putfield 115, 3) := by decide +kernel
theorem dX8_clearText_15 : decode cX8_clearText 15 = .ok (.iload_n 1, 1) := by decide +kernel
theorem dX8_clearText_16 : decode cX8_clearText 16 = .ok (.ireturn, 1) := by decide +kernel
theorem dX8_character_0 : decode cX8_character 0 = .ok (.aload_n 0, 1) := by decide +kernel
theorem dX8_character_1 : decode cX8_character 1 = .ok (.getfield 122, 3) := by decide +kernel
theorem dX8_character_4 : decode cX8_character 4 = .ok (.aload_n 0, 1) := by decide +kernel
theorem dX8_character_5 : decode cX8_character 5 = .ok (.getfield 115, 3) := by decide +kernel
theorem dX8_character_8 : decode cX8_character 8 = .ok (.if_icmp .ge 15, 3) := by decide +kernel
theorem dX8_character_11 : decode cX8_character 11 = .ok (.aload_n 0, 1) := by decide +kernel
theorem dX8_character_12 : decode cX8_character 12 = .ok (.getfield 42, 3) := by decide +kernel
theorem dX8_character_15 : decode cX8_character 15 = .ok (.aload_n 0, 1) := by decide +kernel
theorem dX8_character_16 : decode cX8_character 16 = .ok (.getfield 122, 3) := by decide +kernel
theorem dX8_character_19 : decode cX8_character 19 = .ok (.iaload, 1) := by decide +kernel
theorem dX8_character_20 : decode cX8_character 20 = .ok (.goto 4, 3) := by decide +kernel
theorem dX8_character_23 : decode cX8_character 23 = .ok (.iconst 0, 1) := by decide +kernel
theorem dX8_character_24 : decode cX8_character 24 = .ok (.ireturn, 1) := by decide +kernel
theorem dX8_readParity_0 : decode cX8_readParity 0 = .ok (.aload_n 0, 1) := by decide +kernel
theorem dX8_readParity_1 : decode cX8_readParity 1 = .ok (.dup, 1) := by decide +kernel
theorem dX8_readParity_2 : decode cX8_readParity 2 = .ok (.getfield 122, 3) := by decide +kernel
theorem dX8_readParity_5 : decode cX8_readParity 5 = .ok (.iconst 1, 1) := by decide +kernel
theorem dX8_readParity_6 : decode cX8_readParity 6 = .ok (.iadd, 1) := by decide +kernel
theorem dX8_readParity_7 : decode cX8_readParity 7 = .ok (.putfield 122, 3) := by decide +kernel
theorem dX8_readParity_10 : decode cX8_readParity 10 = .ok (.aload_n 0, 1) := by decide +kernel
theorem dX8_readParity_11 : decode cX8_readParity 11 = .ok (.invokevirtual 125, 3) := by decide +kernel
theorem dX8_readParity_14 : decode cX8_readParity 14 = .ok (.bipush 48, 2) := by decide +kernel
theorem dX8_readParity_16 : decode cX8_readParity 16 = .ok (.isub, 1) := by decide +kernel
theorem dX8_readParity_17 : decode cX8_readParity 17 = .ok (.istore_n 1, 1) := by decide +kernel
theorem dX8_readParity_18 : decode cX8_readParity 18 = .ok (.iload_n 1, 1) := by decide +kernel
theorem dX8_readParity_19 : decode cX8_readParity 19 = .ok (.i2l, 1) := by decide +kernel
theorem dX8_readParity_20 : decode cX8_readParity 20 = .ok (.lconst 0, 1) := by decide +kernel
theorem dX8_readParity_21 : decode cX8_readParity 21 = .ok (.lconst 1, 1) := by decide +kernel
theorem dX8_readParity_22 : decode cX8_readParity 22 = .ok (.invokestatic 111, 3) := by decide +kernel
theorem dX8_readParity_25 : decode cX8_readParity 25 = .ok (.ifCond .ne 5, 3) := by decide +kernel
theorem dX8_readParity_28 : decode cX8_readParity 28 = .ok (.iconst 0, 1) := by decide +kernel
theorem dX8_readParity_29 : decode cX8_readParity 29 = .ok (.ireturn, 1) := by decide +kernel
theorem dX8_readParity_30 : decode cX8_readParity 30 = .ok (.aload_n 0, 1) := by decide +kernel
theorem dX8_readParity_31 : decode cX8_readParity 31 = .ok (.dup, 1) := by decide +kernel
theorem dX8_readParity_32 : decode cX8_readParity 32 = .ok (.getfield 122, 3) := by decide +kernel
theorem dX8_readParity_35 : decode cX8_readParity 35 = .ok (.iconst 1, 1) := by decide +kernel
theorem dX8_readParity_36 : decode cX8_readParity 36 = .ok (.iadd, 1) := by decide +kernel
theorem dX8_readParity_37 : decode cX8_readParity 37 = .ok (.putfield 122, 3) := by decide +kernel
theorem dX8_readParity_40 : decode cX8_readParity 40 = .ok (.iconst 0, 1) := by decide +kernel
theorem dX8_readParity_41 : decode cX8_readParity 41 = .ok (.istore_n 2, 1) := by decide +kernel
theorem dX8_readParity_42 : decode cX8_readParity 42 = .ok (.aload_n 0, 1) := by decide +kernel
theorem dX8_readParity_43 : decode cX8_readParity 43 = .ok (.invokevirtual 125, 3) := by decide +kernel
theorem dX8_readParity_46 : decode cX8_readParity 46 = .ok (.i2l, 1) := by decide +kernel
theorem dX8_readParity_47 : decode cX8_readParity 47 = .ok (.ldc2_w 129, 3) := by decide +kernel
theorem dX8_readParity_50 : decode cX8_readParity 50 = .ok (.ldc2_w 131, 3) := by decide +kernel
theorem dX8_readParity_53 : decode cX8_readParity 53 = .ok (.invokestatic 111, 3) := by decide +kernel
theorem dX8_readParity_56 : decode cX8_readParity 56 = .ok (.ifCond .eq 42, 3) := by decide +kernel
theorem dX8_readParity_59 : decode cX8_readParity 59 = .ok (.iload_n 2, 1) := by decide +kernel
theorem dX8_readParity_60 : decode cX8_readParity 60 = .ok (.aload_n 0, 1) := by decide +kernel
theorem dX8_readParity_61 : decode cX8_readParity 61 = .ok (.invokevirtual 125, 3) := by decide +kernel
theorem dX8_readParity_64 : decode cX8_readParity 64 = .ok (.bipush 97, 2) := by decide +kernel
theorem dX8_readParity_66 : decode cX8_readParity 66 = .ok (.isub, 1) := by decide +kernel
theorem dX8_readParity_67 : decode cX8_readParity 67 = .ok (.invokestatic 54, 3) := by decide +kernel
theorem dX8_readParity_70 : decode cX8_readParity 70 = .ok (.ifCond .ne 28, 3) := by decide +kernel
theorem dX8_readParity_73 : decode cX8_readParity 73 = .ok (.iload_n 2, 1) := by decide +kernel
theorem dX8_readParity_74 : decode cX8_readParity 74 = .ok (.iconst 1, 1) := by decide +kernel
theorem dX8_readParity_75 : decode cX8_readParity 75 = .ok (.aload_n 0, 1) := by decide +kernel
theorem dX8_readParity_76 : decode cX8_readParity 76 = .ok (.invokevirtual 125, 3) := by decide +kernel
theorem dX8_readParity_79 : decode cX8_readParity 79 = .ok (.bipush 97, 2) := by decide +kernel
theorem dX8_readParity_81 : decode cX8_readParity 81 = .ok (.isub, 1) := by decide +kernel
theorem dX8_readParity_82 : decode cX8_readParity 82 = .ok (.ishl, 1) := by decide +kernel
theorem dX8_readParity_83 : decode cX8_readParity 83 = .ok (.ior, 1) := by decide +kernel
theorem dX8_readParity_84 : decode cX8_readParity 84 = .ok (.istore_n 2, 1) := by decide +kernel
theorem dX8_readParity_85 : decode cX8_readParity 85 = .ok (.aload_n 0, 1) := by decide +kernel
theorem dX8_readParity_86 : decode cX8_readParity 86 = .ok (.dup, 1) := by decide +kernel
theorem dX8_readParity_87 : decode cX8_readParity 87 = .ok (.getfield 122, 3) := by decide +kernel
theorem dX8_readParity_90 : decode cX8_readParity 90 = .ok (.iconst 1, 1) := by decide +kernel
theorem dX8_readParity_91 : decode cX8_readParity 91 = .ok (.iadd, 1) := by decide +kernel
theorem dX8_readParity_92 : decode cX8_readParity 92 = .ok (.putfield 122, 3) := by decide +kernel
theorem dX8_readParity_95 : decode cX8_readParity 95 = .ok (.goto (-53), 3) := by decide +kernel
theorem dX8_readParity_98 : decode cX8_readParity 98 = .ok (.aload_n 0, 1) := by decide +kernel
theorem dX8_readParity_99 : decode cX8_readParity 99 = .ok (.getfield 45, 3) := by decide +kernel
theorem dX8_readParity_102 : decode cX8_readParity 102 = .ok (.iconst 1, 1) := by decide +kernel
theorem dX8_readParity_103 : decode cX8_readParity 103 = .ok (.iload_n 2, 1) := by decide +kernel
theorem dX8_readParity_104 : decode cX8_readParity 104 = .ok (.iload_n 1, 1) := by decide +kernel
theorem dX8_readParity_105 : decode cX8_readParity 105 = .ok (.invokestatic 133, 3) := by decide +kernel
theorem dX8_readParity_108 : decode cX8_readParity 108 = .ok (.iload_n 2, 1) := by decide +kernel
theorem dX8_readParity_109 : decode cX8_readParity 109 = .ok (.ifCond .eq 16, 3) := by decide +kernel
theorem dX8_readParity_112 : decode cX8_readParity 112 = .ok (.aload_n 0, 1) := by decide +kernel
theorem dX8_readParity_113 : decode cX8_readParity 113 = .ok (.invokevirtual 125, 3) := by decide +kernel
theorem dX8_readParity_116 : decode cX8_readParity 116 = .ok (.bipush 59, 2) := by decide +kernel
theorem dX8_readParity_118 : decode cX8_readParity 118 = .ok (.if_icmp .ne 7, 3) := by decide +kernel
theorem dX8_readParity_121 : decode cX8_readParity 121 = .ok (.iconst 1, 1) := by decide +kernel
theorem dX8_readParity_122 : decode cX8_readParity 122 = .ok (.goto 4, 3) := by decide +kernel
theorem dX8_readParity_125 : decode cX8_readParity 125 = .ok (.iconst 0, 1) := by decide +kernel
theorem dX8_readParity_126 : decode cX8_readParity 126 = .ok (.ireturn, 1) := by decide +kernel
theorem dX8_readClause_0 : decode cX8_readClause 0 = .ok (.iconst 0, 1) := by decide +kernel
theorem dX8_readClause_1 : decode cX8_readClause 1 = .ok (.istore_n 1, 1) := by decide +kernel
theorem dX8_readClause_2 : decode cX8_readClause 2 = .ok (.iconst 0, 1) := by decide +kernel
theorem dX8_readClause_3 : decode cX8_readClause 3 = .ok (.istore_n 2, 1) := by decide +kernel
theorem dX8_readClause_4 : decode cX8_readClause 4 = .ok (.iconst 1, 1) := by decide +kernel
theorem dX8_readClause_5 : decode cX8_readClause 5 = .ok (.istore_n 3, 1) := by decide +kernel
theorem dX8_readClause_6 : decode cX8_readClause 6 = .ok (.iload_n 3, 1) := by decide +kernel
theorem dX8_readClause_7 : decode cX8_readClause 7 = .ok (.ifCond .eq 136, 3) := by decide +kernel
theorem dX8_readClause_10 : decode cX8_readClause 10 = .ok (.aload_n 0, 1) := by decide +kernel
theorem dX8_readClause_11 : decode cX8_readClause 11 = .ok (.invokevirtual 125, 3) := by decide +kernel
theorem dX8_readClause_14 : decode cX8_readClause 14 = .ok (.istore 4, 2) := by decide +kernel
theorem dX8_readClause_16 : decode cX8_readClause 16 = .ok (.iload 4, 2) := by decide +kernel
theorem dX8_readClause_18 : decode cX8_readClause 18 = .ok (.i2l, 1) := by decide +kernel
theorem dX8_readClause_19 : decode cX8_readClause 19 = .ok (.ldc2_w 129, 3) := by decide +kernel
theorem dX8_readClause_22 : decode cX8_readClause 22 = .ok (.ldc2_w 131, 3) := by decide +kernel
theorem dX8_readClause_25 : decode cX8_readClause 25 = .ok (.invokestatic 111, 3) := by decide +kernel
theorem dX8_readClause_28 : decode cX8_readClause 28 = .ok (.ifCond .eq 11, 3) := by decide +kernel
theorem dX8_readClause_31 : decode cX8_readClause 31 = .ok (.iload 4, 2) := by decide +kernel
theorem dX8_readClause_33 : decode cX8_readClause 33 = .ok (.bipush 97, 2) := by decide +kernel
theorem dX8_readClause_35 : decode cX8_readClause 35 = .ok (.isub, 1) := by decide +kernel
theorem dX8_readClause_36 : decode cX8_readClause 36 = .ok (.goto 28, 3) := by decide +kernel
theorem dX8_readClause_39 : decode cX8_readClause 39 = .ok (.iload 4, 2) := by decide +kernel
theorem dX8_readClause_41 : decode cX8_readClause 41 = .ok (.i2l, 1) := by decide +kernel
theorem dX8_readClause_42 : decode cX8_readClause 42 = .ok (.ldc2_w 137, 3) := by decide +kernel
theorem dX8_readClause_45 : decode cX8_readClause 45 = .ok (.ldc2_w 139, 3) := by decide +kernel
theorem dX8_readClause_48 : decode cX8_readClause 48 = .ok (.invokestatic 111, 3) := by decide +kernel
theorem dX8_readClause_51 : decode cX8_readClause 51 = .ok (.ifCond .eq 11, 3) := by decide +kernel
theorem dX8_readClause_54 : decode cX8_readClause 54 = .ok (.iload 4, 2) := by decide +kernel
theorem dX8_readClause_56 : decode cX8_readClause 56 = .ok (.bipush 65, 2) := by decide +kernel
theorem dX8_readClause_58 : decode cX8_readClause 58 = .ok (.isub, 1) := by decide +kernel
theorem dX8_readClause_59 : decode cX8_readClause 59 = .ok (.goto 5, 3) := by decide +kernel
theorem dX8_readClause_62 : decode cX8_readClause 62 = .ok (.bipush (-9), 2) := by decide +kernel
theorem dX8_readClause_64 : decode cX8_readClause 64 = .ok (.istore 5, 2) := by decide +kernel
theorem dX8_readClause_66 : decode cX8_readClause 66 = .ok (.iload 5, 2) := by decide +kernel
theorem dX8_readClause_68 : decode cX8_readClause 68 = .ok (.bipush (-9), 2) := by decide +kernel
theorem dX8_readClause_70 : decode cX8_readClause 70 = .ok (.if_icmp .eq 18, 3) := by decide +kernel
theorem dX8_readClause_73 : decode cX8_readClause 73 = .ok (.iload_n 1, 1) := by decide +kernel
theorem dX8_readClause_74 : decode cX8_readClause 74 = .ok (.iload_n 2, 1) := by decide +kernel
theorem dX8_readClause_75 : decode cX8_readClause 75 = .ok (.ior, 1) := by decide +kernel
theorem dX8_readClause_76 : decode cX8_readClause 76 = .ok (.iload 5, 2) := by decide +kernel
theorem dX8_readClause_78 : decode cX8_readClause 78 = .ok (.invokestatic 54, 3) := by decide +kernel
theorem dX8_readClause_81 : decode cX8_readClause 81 = .ok (.ifCond .ne 7, 3) := by decide +kernel
theorem dX8_readClause_84 : decode cX8_readClause 84 = .ok (.iconst 1, 1) := by decide +kernel
theorem dX8_readClause_85 : decode cX8_readClause 85 = .ok (.goto 4, 3) := by decide +kernel
theorem dX8_readClause_88 : decode cX8_readClause 88 = .ok (.iconst 0, 1) := by decide +kernel
theorem dX8_readClause_89 : decode cX8_readClause 89 = .ok (.istore_n 3, 1) := by decide +kernel
theorem dX8_readClause_90 : decode cX8_readClause 90 = .ok (.iload_n 3, 1) := by decide +kernel
theorem dX8_readClause_91 : decode cX8_readClause 91 = .ok (.ifCond .eq 49, 3) := by decide +kernel
theorem dX8_readClause_94 : decode cX8_readClause 94 = .ok (.iload_n 1, 1) := by decide +kernel
theorem dX8_readClause_95 : decode cX8_readClause 95 = .ok (.iload 4, 2) := by decide +kernel
theorem dX8_readClause_97 : decode cX8_readClause 97 = .ok (.bipush 97, 2) := by decide +kernel
theorem dX8_readClause_99 : decode cX8_readClause 99 = .ok (.if_icmp .lt 10, 3) := by decide +kernel
theorem dX8_readClause_102 : decode cX8_readClause 102 = .ok (.iconst 1, 1) := by decide +kernel
theorem dX8_readClause_103 : decode cX8_readClause 103 = .ok (.iload 5, 2) := by decide +kernel
theorem dX8_readClause_105 : decode cX8_readClause 105 = .ok (.ishl, 1) := by decide +kernel
theorem dX8_readClause_106 : decode cX8_readClause 106 = .ok (.goto 4, 3) := by decide +kernel
theorem dX8_readClause_109 : decode cX8_readClause 109 = .ok (.iconst 0, 1) := by decide +kernel
theorem dX8_readClause_110 : decode cX8_readClause 110 = .ok (.ior, 1) := by decide +kernel
theorem dX8_readClause_111 : decode cX8_readClause 111 = .ok (.istore_n 1, 1) := by decide +kernel
theorem dX8_readClause_112 : decode cX8_readClause 112 = .ok (.iload_n 2, 1) := by decide +kernel
theorem dX8_readClause_113 : decode cX8_readClause 113 = .ok (.iload 4, 2) := by decide +kernel
theorem dX8_readClause_115 : decode cX8_readClause 115 = .ok (.bipush 97, 2) := by decide +kernel
theorem dX8_readClause_117 : decode cX8_readClause 117 = .ok (.if_icmp .lt 7, 3) := by decide +kernel
theorem dX8_readClause_120 : decode cX8_readClause 120 = .ok (.iconst 0, 1) := by decide +kernel
theorem dX8_readClause_121 : decode cX8_readClause 121 = .ok (.goto 7, 3) := by decide +kernel
theorem dX8_readClause_124 : decode cX8_readClause 124 = .ok (.iconst 1, 1) := by decide +kernel
theorem dX8_readClause_125 : decode cX8_readClause 125 = .ok (.iload 5, 2) := by decide +kernel
theorem dX8_readClause_127 : decode cX8_readClause 127 = .ok (.ishl, 1) := by decide +kernel
theorem dX8_readClause_128 : decode cX8_readClause 128 = .ok (.ior, 1) := by decide +kernel
theorem dX8_readClause_129 : decode cX8_readClause 129 = .ok (.istore_n 2, 1) := by decide +kernel
theorem dX8_readClause_130 : decode cX8_readClause 130 = .ok (.aload_n 0, 1) := by decide +kernel
theorem dX8_readClause_131 : decode cX8_readClause 131 = .ok (.dup, 1) := by decide +kernel
theorem dX8_readClause_132 : decode cX8_readClause 132 = .ok (.getfield 122, 3) := by decide +kernel
theorem dX8_readClause_135 : decode cX8_readClause 135 = .ok (.iconst 1, 1) := by decide +kernel
theorem dX8_readClause_136 : decode cX8_readClause 136 = .ok (.iadd, 1) := by decide +kernel
theorem dX8_readClause_137 : decode cX8_readClause 137 = .ok (.putfield 122, 3) := by decide +kernel
theorem dX8_readClause_140 : decode cX8_readClause 140 = .ok (.goto (-134), 3) := by decide +kernel
theorem dX8_readClause_143 : decode cX8_readClause 143 = .ok (.aload_n 0, 1) := by decide +kernel
theorem dX8_readClause_144 : decode cX8_readClause 144 = .ok (.getfield 45, 3) := by decide +kernel
theorem dX8_readClause_147 : decode cX8_readClause 147 = .ok (.iconst 0, 1) := by decide +kernel
theorem dX8_readClause_148 : decode cX8_readClause 148 = .ok (.iload_n 1, 1) := by decide +kernel
theorem dX8_readClause_149 : decode cX8_readClause 149 = .ok (.iload_n 2, 1) := by decide +kernel
theorem dX8_readClause_150 : decode cX8_readClause 150 = .ok (.invokestatic 133, 3) := by decide +kernel
theorem dX8_readClause_153 : decode cX8_readClause 153 = .ok (.iload_n 1, 1) := by decide +kernel
theorem dX8_readClause_154 : decode cX8_readClause 154 = .ok (.iload_n 2, 1) := by decide +kernel
theorem dX8_readClause_155 : decode cX8_readClause 155 = .ok (.ior, 1) := by decide +kernel
theorem dX8_readClause_156 : decode cX8_readClause 156 = .ok (.ifCond .eq 16, 3) := by decide +kernel
theorem dX8_readClause_159 : decode cX8_readClause 159 = .ok (.aload_n 0, 1) := by decide +kernel
theorem dX8_readClause_160 : decode cX8_readClause 160 = .ok (.invokevirtual 125, 3) := by decide +kernel
theorem dX8_readClause_163 : decode cX8_readClause 163 = .ok (.bipush 59, 2) := by decide +kernel
theorem dX8_readClause_165 : decode cX8_readClause 165 = .ok (.if_icmp .ne 7, 3) := by decide +kernel
theorem dX8_readClause_168 : decode cX8_readClause 168 = .ok (.iconst 1, 1) := by decide +kernel
theorem dX8_readClause_169 : decode cX8_readClause 169 = .ok (.goto 4, 3) := by decide +kernel
theorem dX8_readClause_172 : decode cX8_readClause 172 = .ok (.iconst 0, 1) := by decide +kernel
theorem dX8_readClause_173 : decode cX8_readClause 173 = .ok (.ireturn, 1) := by decide +kernel
theorem dX8_readText_0 : decode cX8_readText 0 = .ok (.iconst 0, 1) := by decide +kernel
theorem dX8_readText_1 : decode cX8_readText 1 = .ok (.istore_n 1, 1) := by decide +kernel
theorem dX8_readText_2 : decode cX8_readText 2 = .ok (.iload_n 1, 1) := by decide +kernel
theorem dX8_readText_3 : decode cX8_readText 3 = .ok (.bipush 82, 2) := by decide +kernel
theorem dX8_readText_5 : decode cX8_readText 5 = .ok (.if_icmp .ge 16, 3) := by decide +kernel
theorem dX8_readText_8 : decode cX8_readText 8 = .ok (.aload_n 0, 1) := by decide +kernel
theorem dX8_readText_9 : decode cX8_readText 9 = .ok (.getfield 45, 3) := by decide +kernel
theorem dX8_readText_12 : decode cX8_readText 12 = .ok (.iload_n 1, 1) := by decide +kernel
theorem dX8_readText_13 : decode cX8_readText 13 = .ok (.iconst 0, 1) := by decide +kernel
theorem dX8_readText_14 : decode cX8_readText 14 = .ok (.iastore, 1) := by decide +kernel
theorem dX8_readText_15 : decode cX8_readText 15 = .ok (.iinc 1 1, 3) := by decide +kernel
theorem dX8_readText_18 : decode cX8_readText 18 = .ok (.goto (-16), 3) := by decide +kernel
theorem dX8_readText_21 : decode cX8_readText 21 = .ok (.aload_n 0, 1) := by decide +kernel
theorem dX8_readText_22 : decode cX8_readText 22 = .ok (.iconst 0, 1) := by decide +kernel
theorem dX8_readText_23 : decode cX8_readText 23 = .ok (.putfield 122, 3) := by decide +kernel
theorem dX8_readText_26 : decode cX8_readText 26 = .ok (.aload_n 0, 1) := by decide +kernel
theorem dX8_readText_27 : decode cX8_readText 27 = .ok (.getfield 122, 3) := by decide +kernel
theorem dX8_readText_30 : decode cX8_readText 30 = .ok (.aload_n 0, 1) := by decide +kernel
theorem dX8_readText_31 : decode cX8_readText 31 = .ok (.getfield 115, 3) := by decide +kernel
theorem dX8_readText_34 : decode cX8_readText 34 = .ok (.if_icmp .ge 62, 3) := by decide +kernel
theorem dX8_readText_37 : decode cX8_readText 37 = .ok (.aload_n 0, 1) := by decide +kernel
theorem dX8_readText_38 : decode cX8_readText 38 = .ok (.getfield 45, 3) := by decide +kernel
theorem dX8_readText_41 : decode cX8_readText 41 = .ok (.iconst 0, 1) := by decide +kernel
theorem dX8_readText_42 : decode cX8_readText 42 = .ok (.iaload, 1) := by decide +kernel
theorem dX8_readText_43 : decode cX8_readText 43 = .ok (.bipush 24, 2) := by decide +kernel
theorem dX8_readText_45 : decode cX8_readText 45 = .ok (.if_icmp .ne 8, 3) := by decide +kernel
theorem dX8_readText_48 : decode cX8_readText 48 = .ok (.aload_n 0, 1) := by decide +kernel
theorem dX8_readText_49 : decode cX8_readText 49 = .ok (.getfield 122, 3) := by decide +kernel
theorem dX8_readText_52 : decode cX8_readText 52 = .ok (.ireturn, 1) := by decide +kernel
theorem dX8_readText_53 : decode cX8_readText 53 = .ok (.aload_n 0, 1) := by decide +kernel
theorem dX8_readText_54 : decode cX8_readText 54 = .ok (.invokevirtual 125, 3) := by decide +kernel
theorem dX8_readText_57 : decode cX8_readText 57 = .ok (.bipush 61, 2) := by decide +kernel
theorem dX8_readText_59 : decode cX8_readText 59 = .ok (.if_icmp .ne 10, 3) := by decide +kernel
theorem dX8_readText_62 : decode cX8_readText 62 = .ok (.aload_n 0, 1) := by decide +kernel
theorem dX8_readText_63 : decode cX8_readText 63 = .ok (.invokevirtual 141, 3) := by decide +kernel
theorem dX8_readText_66 : decode cX8_readText 66 = .ok (.goto 7, 3) := by decide +kernel
theorem dX8_readText_69 : decode cX8_readText 69 = .ok (.aload_n 0, 1) := by decide +kernel
theorem dX8_readText_70 : decode cX8_readText 70 = .ok (.invokevirtual 145, 3) := by decide +kernel
theorem dX8_readText_73 : decode cX8_readText 73 = .ok (.istore_n 1, 1) := by decide +kernel
theorem dX8_readText_74 : decode cX8_readText 74 = .ok (.iload_n 1, 1) := by decide +kernel
theorem dX8_readText_75 : decode cX8_readText 75 = .ok (.ifCond .ne 8, 3) := by decide +kernel
theorem dX8_readText_78 : decode cX8_readText 78 = .ok (.aload_n 0, 1) := by decide +kernel
theorem dX8_readText_79 : decode cX8_readText 79 = .ok (.getfield 122, 3) := by decide +kernel
theorem dX8_readText_82 : decode cX8_readText 82 = .ok (.ireturn, 1) := by decide +kernel
theorem dX8_readText_83 : decode cX8_readText 83 = .ok (.aload_n 0, 1) := by decide +kernel
theorem dX8_readText_84 : decode cX8_readText 84 = .ok (.dup, 1) := by decide +kernel
theorem dX8_readText_85 : decode cX8_readText 85 = .ok (.getfield 122, 3) := by decide +kernel
theorem dX8_readText_88 : decode cX8_readText 88 = .ok (.iconst 1, 1) := by decide +kernel
theorem dX8_readText_89 : decode cX8_readText 89 = .ok (.iadd, 1) := by decide +kernel
theorem dX8_readText_90 : decode cX8_readText 90 = .ok (.putfield 122, 3) := by decide +kernel
theorem dX8_readText_93 : decode cX8_readText 93 = .ok (.goto (-67), 3) := by decide +kernel
theorem dX8_readText_96 : decode cX8_readText 96 = .ok (.bipush (-9), 2) := by decide +kernel
theorem dX8_readText_98 : decode cX8_readText 98 = .ok (.ireturn, 1) := by decide +kernel
theorem dX8_errorPosition_0 : decode cX8_errorPosition 0 = .ok (.aload_n 0, 1) := by decide +kernel
theorem dX8_errorPosition_1 : decode cX8_errorPosition 1 = .ok (.iconst 0, 1) := by decide +kernel
theorem dX8_errorPosition_2 : decode cX8_errorPosition 2 = .ok (.putfield 51, 3) := by decide +kernel
theorem dX8_errorPosition_5 : decode cX8_errorPosition 5 = .ok (.aload_n 0, 1) := by decide +kernel
theorem dX8_errorPosition_6 : decode cX8_errorPosition 6 = .ok (.invokevirtual 148, 3) := by decide +kernel
theorem dX8_errorPosition_9 : decode cX8_errorPosition 9 = .ok (.ireturn, 1) := by decide +kernel
theorem dX8_load_0 : decode cX8_load 0 = .ok (.aload_n 0, 1) := by decide +kernel
theorem dX8_load_1 : decode cX8_load 1 = .ok (.aload_n 0, 1) := by decide +kernel
theorem dX8_load_2 : decode cX8_load 2 = .ok (.invokevirtual 148, 3) := by decide +kernel
theorem dX8_load_5 : decode cX8_load 5 = .ok (.bipush (-9), 2) := by decide +kernel
theorem dX8_load_7 : decode cX8_load 7 = .ok (.if_icmp .ne 7, 3) := by decide +kernel
theorem dX8_load_10 : decode cX8_load 10 = .ok (.iconst 0, 1) := by decide +kernel
theorem dX8_load_11 : decode cX8_load 11 = .ok (.goto 4, 3) := by decide +kernel
theorem dX8_load_14 : decode cX8_load 14 = .ok (.iconst 1, 1) := by decide +kernel
theorem dX8_load_15 : decode cX8_load 15 = .ok (.invokevirtual 118, 3) := by decide +kernel
theorem dX8_load_18 : decode cX8_load 18 = .ok (.ifCond .eq 5, 3) := by decide +kernel
theorem dX8_load_21 : decode cX8_load 21 = .ok (.iconst 0, 1) := by decide +kernel
theorem dX8_load_22 : decode cX8_load 22 = .ok (.ireturn, 1) := by decide +kernel
theorem dX8_load_23 : decode cX8_load 23 = .ok (.aload_n 0, 1) := by decide +kernel
theorem dX8_load_24 : decode cX8_load 24 = .ok (.getfield 45, 3) := by decide +kernel
theorem dX8_load_27 : decode cX8_load 27 = .ok (.aload_n 0, 1) := by decide +kernel
theorem dX8_load_28 : decode cX8_load 28 = .ok (.getfield 7, 3) := by decide +kernel
theorem dX8_load_31 : decode cX8_load 31 = .ok (.invokestatic 102, 3) := by decide +kernel
theorem dX8_load_34 : decode cX8_load 34 = .ok (.aload_n 0, 1) := by decide +kernel
theorem dX8_load_35 : decode cX8_load 35 = .ok (.aload_n 0, 1) := by decide +kernel
theorem dX8_load_36 : decode cX8_load 36 = .ok (.getfield 7, 3) := by decide +kernel
theorem dX8_load_39 : decode cX8_load 39 = .ok (.invokevirtual 106, 3) := by decide +kernel
theorem dX8_load_42 : decode cX8_load 42 = .ok (.aload_n 0, 1) := by decide +kernel
theorem dX8_load_43 : decode cX8_load 43 = .ok (.iconst 0, 1) := by decide +kernel
theorem dX8_load_44 : decode cX8_load 44 = .ok (.putfield 99, 3) := by decide +kernel
theorem dX8_load_47 : decode cX8_load 47 = .ok (.aload_n 0, 1) := by decide +kernel
theorem dX8_load_48 : decode cX8_load 48 = .ok (.getfield 22, 3) := by decide +kernel
theorem dX8_load_51 : decode cX8_load 51 = .ok (.iconst 0, 1) := by decide +kernel
theorem dX8_load_52 : decode cX8_load 52 = .ok (.iconst 0, 1) := by decide +kernel
theorem dX8_load_53 : decode cX8_load 53 = .ok (.bastore, 1) := by decide +kernel
theorem dX8_load_54 : decode cX8_load 54 = .ok (.aload_n 0, 1) := by decide +kernel
theorem dX8_load_55 : decode cX8_load 55 = .ok (.getfield 22, 3) := by decide +kernel
theorem dX8_load_58 : decode cX8_load 58 = .ok (.iconst 1, 1) := by decide +kernel
theorem dX8_load_59 : decode cX8_load 59 = .ok (.iconst 0, 1) := by decide +kernel
theorem dX8_load_60 : decode cX8_load 60 = .ok (.bastore, 1) := by decide +kernel
theorem dX8_load_61 : decode cX8_load 61 = .ok (.aload_n 0, 1) := by decide +kernel
theorem dX8_load_62 : decode cX8_load 62 = .ok (.getfield 7, 3) := by decide +kernel
theorem dX8_load_65 : decode cX8_load 65 = .ok (.iconst 0, 1) := by decide +kernel
theorem dX8_load_66 : decode cX8_load 66 = .ok (.iaload, 1) := by decide +kernel
theorem dX8_load_67 : decode cX8_load 67 = .ok (.ireturn, 1) := by decide +kernel
theorem dX8_isConstraint_0 : decode cX8_isConstraint 0 = .ok (.iload_n 1, 1) := by decide +kernel
theorem dX8_isConstraint_1 : decode cX8_isConstraint 1 = .ok (.i2l, 1) := by decide +kernel
theorem dX8_isConstraint_2 : decode cX8_isConstraint 2 = .ok (.lconst 0, 1) := by decide +kernel
theorem dX8_isConstraint_3 : decode cX8_isConstraint 3 = .ok (.aload_n 0, 1) := by decide +kernel
theorem dX8_isConstraint_4 : decode cX8_isConstraint 4 = .ok (.getfield 7, 3) := by decide +kernel
theorem dX8_isConstraint_7 : decode cX8_isConstraint 7 = .ok (.iconst 0, 1) := by decide +kernel
theorem dX8_isConstraint_8 : decode cX8_isConstraint 8 = .ok (.iaload, 1) := by decide +kernel
theorem dX8_isConstraint_9 : decode cX8_isConstraint 9 = .ok (.iconst 1, 1) := by decide +kernel
theorem dX8_isConstraint_10 : decode cX8_isConstraint 10 = .ok (.isub, 1) := by decide +kernel
theorem dX8_isConstraint_11 : decode cX8_isConstraint 11 = .ok (.i2l, 1) := by decide +kernel
theorem dX8_isConstraint_12 : decode cX8_isConstraint 12 = .ok (.invokestatic 111, 3) := by decide +kernel
theorem dX8_isConstraint_15 : decode cX8_isConstraint 15 = .ok (.ireturn, 1) := by decide +kernel
theorem dX8_constraintCount_0 : decode cX8_constraintCount 0 = .ok (.aload_n 0, 1) := by decide +kernel
theorem dX8_constraintCount_1 : decode cX8_constraintCount 1 = .ok (.iconst 0, 1) := by decide +kernel
theorem dX8_constraintCount_2 : decode cX8_constraintCount 2 = .ok (.putfield 51, 3) := by decide +kernel
theorem dX8_constraintCount_5 : decode cX8_constraintCount 5 = .ok (.aload_n 0, 1) := by decide +kernel
theorem dX8_constraintCount_6 : decode cX8_constraintCount 6 = .ok (.getfield 7, 3) := by decide +kernel
theorem dX8_constraintCount_9 : decode cX8_constraintCount 9 = .ok (.iconst 0, 1) := by decide +kernel
theorem dX8_constraintCount_10 : decode cX8_constraintCount 10 = .ok (.iaload, 1) := by decide +kernel
theorem dX8_constraintCount_11 : decode cX8_constraintCount 11 = .ok (.ireturn, 1) := by decide +kernel
theorem dX8_isParity_0 : decode cX8_isParity 0 = .ok (.aload_n 0, 1) := by decide +kernel
theorem dX8_isParity_1 : decode cX8_isParity 1 = .ok (.aload_n 0, 1) := by decide +kernel
theorem dX8_isParity_2 : decode cX8_isParity 2 = .ok (.iload_n 1, 1) := by decide +kernel
theorem dX8_isParity_3 : decode cX8_isParity 3 = .ok (.invokevirtual 151, 3) := by decide +kernel
theorem dX8_isParity_6 : decode cX8_isParity 6 = .ok (.ifCond .eq 7, 3) := by decide +kernel
theorem dX8_isParity_9 : decode cX8_isParity 9 = .ok (.iconst 0, 1) := by decide +kernel
theorem dX8_isParity_10 : decode cX8_isParity 10 = .ok (.goto 4, 3) := by decide +kernel
theorem dX8_isParity_13 : decode cX8_isParity 13 = .ok (.iconst 1, 1) := by decide +kernel
theorem dX8_isParity_14 : decode cX8_isParity 14 = .ok (.invokevirtual 118, 3) := by decide +kernel
theorem dX8_isParity_17 : decode cX8_isParity 17 = .ok (.ifCond .eq 5, 3) := by decide +kernel
theorem dX8_isParity_20 : decode cX8_isParity 20 = .ok (.iconst 0, 1) := by decide +kernel
theorem dX8_isParity_21 : decode cX8_isParity 21 = .ok (.ireturn, 1) := by decide +kernel
theorem dX8_isParity_22 : decode cX8_isParity 22 = .ok (.aload_n 0, 1) := by decide +kernel
theorem dX8_isParity_23 : decode cX8_isParity 23 = .ok (.getfield 7, 3) := by decide +kernel
theorem dX8_isParity_26 : decode cX8_isParity 26 = .ok (.iconst 1, 1) := by decide +kernel
theorem dX8_isParity_27 : decode cX8_isParity 27 = .ok (.iload_n 1, 1) := by decide +kernel
theorem dX8_isParity_28 : decode cX8_isParity 28 = .ok (.iadd, 1) := by decide +kernel
theorem dX8_isParity_29 : decode cX8_isParity 29 = .ok (.iaload, 1) := by decide +kernel
theorem dX8_isParity_30 : decode cX8_isParity 30 = .ok (.iconst 1, 1) := by decide +kernel
theorem dX8_isParity_31 : decode cX8_isParity 31 = .ok (.if_icmp .ne 7, 3) := by decide +kernel
theorem dX8_isParity_34 : decode cX8_isParity 34 = .ok (.iconst 1, 1) := by decide +kernel
theorem dX8_isParity_35 : decode cX8_isParity 35 = .ok (.goto 4, 3) := by decide +kernel
theorem dX8_isParity_38 : decode cX8_isParity 38 = .ok (.iconst 0, 1) := by decide +kernel
theorem dX8_isParity_39 : decode cX8_isParity 39 = .ok (.ireturn, 1) := by decide +kernel
theorem dX8_variables_0 : decode cX8_variables 0 = .ok (.aload_n 0, 1) := by decide +kernel
theorem dX8_variables_1 : decode cX8_variables 1 = .ok (.aload_n 0, 1) := by decide +kernel
theorem dX8_variables_2 : decode cX8_variables 2 = .ok (.iload_n 1, 1) := by decide +kernel
theorem dX8_variables_3 : decode cX8_variables 3 = .ok (.invokevirtual 151, 3) := by decide +kernel
theorem dX8_variables_6 : decode cX8_variables 6 = .ok (.ifCond .eq 7, 3) := by decide +kernel
theorem dX8_variables_9 : decode cX8_variables 9 = .ok (.iconst 0, 1) := by decide +kernel
theorem dX8_variables_10 : decode cX8_variables 10 = .ok (.goto 4, 3) := by decide +kernel
theorem dX8_variables_13 : decode cX8_variables 13 = .ok (.iconst 1, 1) := by decide +kernel
theorem dX8_variables_14 : decode cX8_variables 14 = .ok (.invokevirtual 118, 3) := by decide +kernel
theorem dX8_variables_17 : decode cX8_variables 17 = .ok (.ifCond .eq 5, 3) := by decide +kernel
theorem dX8_variables_20 : decode cX8_variables 20 = .ok (.iconst 0, 1) := by decide +kernel
theorem dX8_variables_21 : decode cX8_variables 21 = .ok (.ireturn, 1) := by decide +kernel
theorem dX8_variables_22 : decode cX8_variables 22 = .ok (.aload_n 0, 1) := by decide +kernel
theorem dX8_variables_23 : decode cX8_variables 23 = .ok (.getfield 7, 3) := by decide +kernel
theorem dX8_variables_26 : decode cX8_variables 26 = .ok (.bipush 25, 2) := by decide +kernel
theorem dX8_variables_28 : decode cX8_variables 28 = .ok (.iload_n 1, 1) := by decide +kernel
theorem dX8_variables_29 : decode cX8_variables 29 = .ok (.iadd, 1) := by decide +kernel
theorem dX8_variables_30 : decode cX8_variables 30 = .ok (.iaload, 1) := by decide +kernel
theorem dX8_variables_31 : decode cX8_variables 31 = .ok (.ireturn, 1) := by decide +kernel
theorem dX8_negated_0 : decode cX8_negated 0 = .ok (.aload_n 0, 1) := by decide +kernel
theorem dX8_negated_1 : decode cX8_negated 1 = .ok (.aload_n 0, 1) := by decide +kernel
theorem dX8_negated_2 : decode cX8_negated 2 = .ok (.iload_n 1, 1) := by decide +kernel
theorem dX8_negated_3 : decode cX8_negated 3 = .ok (.invokevirtual 151, 3) := by decide +kernel
theorem dX8_negated_6 : decode cX8_negated 6 = .ok (.ifCond .eq 7, 3) := by decide +kernel
theorem dX8_negated_9 : decode cX8_negated 9 = .ok (.iconst 0, 1) := by decide +kernel
theorem dX8_negated_10 : decode cX8_negated 10 = .ok (.goto 4, 3) := by decide +kernel
theorem dX8_negated_13 : decode cX8_negated 13 = .ok (.iconst 1, 1) := by decide +kernel
theorem dX8_negated_14 : decode cX8_negated 14 = .ok (.invokevirtual 118, 3) := by decide +kernel
theorem dX8_negated_17 : decode cX8_negated 17 = .ok (.ifCond .eq 5, 3) := by decide +kernel
theorem dX8_negated_20 : decode cX8_negated 20 = .ok (.iconst 0, 1) := by decide +kernel
theorem dX8_negated_21 : decode cX8_negated 21 = .ok (.ireturn, 1) := by decide +kernel
theorem dX8_negated_22 : decode cX8_negated 22 = .ok (.aload_n 0, 1) := by decide +kernel
theorem dX8_negated_23 : decode cX8_negated 23 = .ok (.getfield 7, 3) := by decide +kernel
theorem dX8_negated_26 : decode cX8_negated 26 = .ok (.bipush 49, 2) := by decide +kernel
theorem dX8_negated_28 : decode cX8_negated 28 = .ok (.iload_n 1, 1) := by decide +kernel
theorem dX8_negated_29 : decode cX8_negated 29 = .ok (.iadd, 1) := by decide +kernel
theorem dX8_negated_30 : decode cX8_negated 30 = .ok (.iaload, 1) := by decide +kernel
theorem dX8_negated_31 : decode cX8_negated 31 = .ok (.ireturn, 1) := by decide +kernel
theorem dX8_isClause_0 : decode cX8_isClause 0 = .ok (.iload_n 0, 1) := by decide +kernel
theorem dX8_isClause_1 : decode cX8_isClause 1 = .ok (.i2l, 1) := by decide +kernel
theorem dX8_isClause_2 : decode cX8_isClause 2 = .ok (.lconst 0, 1) := by decide +kernel
theorem dX8_isClause_3 : decode cX8_isClause 3 = .ok (.ldc2_w 109, 3) := by decide +kernel
theorem dX8_isClause_6 : decode cX8_isClause 6 = .ok (.invokestatic 111, 3) := by decide +kernel
theorem dX8_isClause_9 : decode cX8_isClause 9 = .ok (.ifCond .eq 25, 3) := by decide +kernel
theorem dX8_isClause_12 : decode cX8_isClause 12 = .ok (.iload_n 1, 1) := by decide +kernel
theorem dX8_isClause_13 : decode cX8_isClause 13 = .ok (.i2l, 1) := by decide +kernel
theorem dX8_isClause_14 : decode cX8_isClause 14 = .ok (.lconst 0, 1) := by decide +kernel
theorem dX8_isClause_15 : decode cX8_isClause 15 = .ok (.ldc2_w 109, 3) := by decide +kernel
theorem dX8_isClause_18 : decode cX8_isClause 18 = .ok (.invokestatic 111, 3) := by decide +kernel
theorem dX8_isClause_21 : decode cX8_isClause 21 = .ok (.ifCond .eq 13, 3) := by decide +kernel
theorem dX8_isClause_24 : decode cX8_isClause 24 = .ok (.iload_n 0, 1) := by decide +kernel
theorem dX8_isClause_25 : decode cX8_isClause 25 = .ok (.iload_n 1, 1) := by decide +kernel
theorem dX8_isClause_26 : decode cX8_isClause 26 = .ok (.iand, 1) := by decide +kernel
theorem dX8_isClause_27 : decode cX8_isClause 27 = .ok (.ifCond .ne 7, 3) := by decide +kernel
theorem dX8_isClause_30 : decode cX8_isClause 30 = .ok (.iconst 1, 1) := by decide +kernel
theorem dX8_isClause_31 : decode cX8_isClause 31 = .ok (.goto 4, 3) := by decide +kernel
theorem dX8_isClause_34 : decode cX8_isClause 34 = .ok (.iconst 0, 1) := by decide +kernel
theorem dX8_isClause_35 : decode cX8_isClause 35 = .ok (.ireturn, 1) := by decide +kernel
theorem dX8_isSum_0 : decode cX8_isSum 0 = .ok (.iload_n 0, 1) := by decide +kernel
theorem dX8_isSum_1 : decode cX8_isSum 1 = .ok (.i2l, 1) := by decide +kernel
theorem dX8_isSum_2 : decode cX8_isSum 2 = .ok (.lconst 0, 1) := by decide +kernel
theorem dX8_isSum_3 : decode cX8_isSum 3 = .ok (.ldc2_w 109, 3) := by decide +kernel
theorem dX8_isSum_6 : decode cX8_isSum 6 = .ok (.invokestatic 111, 3) := by decide +kernel
theorem dX8_isSum_9 : decode cX8_isSum 9 = .ok (.ifCond .eq 17, 3) := by decide +kernel
theorem dX8_isSum_12 : decode cX8_isSum 12 = .ok (.iload_n 1, 1) := by decide +kernel
theorem dX8_isSum_13 : decode cX8_isSum 13 = .ok (.i2l, 1) := by decide +kernel
theorem dX8_isSum_14 : decode cX8_isSum 14 = .ok (.lconst 0, 1) := by decide +kernel
theorem dX8_isSum_15 : decode cX8_isSum 15 = .ok (.lconst 1, 1) := by decide +kernel
theorem dX8_isSum_16 : decode cX8_isSum 16 = .ok (.invokestatic 111, 3) := by decide +kernel
theorem dX8_isSum_19 : decode cX8_isSum 19 = .ok (.ifCond .eq 7, 3) := by decide +kernel
theorem dX8_isSum_22 : decode cX8_isSum 22 = .ok (.iconst 1, 1) := by decide +kernel
theorem dX8_isSum_23 : decode cX8_isSum 23 = .ok (.goto 4, 3) := by decide +kernel
theorem dX8_isSum_26 : decode cX8_isSum 26 = .ok (.iconst 0, 1) := by decide +kernel
theorem dX8_isSum_27 : decode cX8_isSum 27 = .ok (.ireturn, 1) := by decide +kernel
theorem dX8_added_0 : decode cX8_added 0 = .ok (.aload_n 0, 1) := by decide +kernel
theorem dX8_added_1 : decode cX8_added 1 = .ok (.getfield 7, 3) := by decide +kernel
theorem dX8_added_4 : decode cX8_added 4 = .ok (.aload_n 0, 1) := by decide +kernel
theorem dX8_added_5 : decode cX8_added 5 = .ok (.getfield 13, 3) := by decide +kernel
theorem dX8_added_8 : decode cX8_added 8 = .ok (.invokestatic 102, 3) := by decide +kernel
theorem dX8_added_11 : decode cX8_added 11 = .ok (.aload_n 0, 1) := by decide +kernel
theorem dX8_added_12 : decode cX8_added 12 = .ok (.getfield 13, 3) := by decide +kernel
theorem dX8_added_15 : decode cX8_added 15 = .ok (.iload_n 1, 1) := by decide +kernel
theorem dX8_added_16 : decode cX8_added 16 = .ok (.iload_n 2, 1) := by decide +kernel
theorem dX8_added_17 : decode cX8_added 17 = .ok (.iload_n 3, 1) := by decide +kernel
theorem dX8_added_18 : decode cX8_added 18 = .ok (.invokestatic 133, 3) := by decide +kernel
theorem dX8_added_21 : decode cX8_added 21 = .ok (.aload_n 0, 1) := by decide +kernel
theorem dX8_added_22 : decode cX8_added 22 = .ok (.invokevirtual 154, 3) := by decide +kernel
theorem dX8_added_25 : decode cX8_added 25 = .ok (.aload_n 0, 1) := by decide +kernel
theorem dX8_added_26 : decode cX8_added 26 = .ok (.getfield 7, 3) := by decide +kernel
theorem dX8_added_29 : decode cX8_added 29 = .ok (.iconst 0, 1) := by decide +kernel
theorem dX8_added_30 : decode cX8_added 30 = .ok (.iaload, 1) := by decide +kernel
theorem dX8_added_31 : decode cX8_added 31 = .ok (.iconst 1, 1) := by decide +kernel
theorem dX8_added_32 : decode cX8_added 32 = .ok (.isub, 1) := by decide +kernel
theorem dX8_added_33 : decode cX8_added 33 = .ok (.ireturn, 1) := by decide +kernel
theorem dX8_addClause_0 : decode cX8_addClause 0 = .ok (.aload_n 0, 1) := by decide +kernel
theorem dX8_addClause_1 : decode cX8_addClause 1 = .ok (.iload_n 1, 1) := by decide +kernel
theorem dX8_addClause_2 : decode cX8_addClause 2 = .ok (.iload_n 2, 1) := by decide +kernel
theorem dX8_addClause_3 : decode cX8_addClause 3 = .ok (.invokestatic 157, 3) := by decide +kernel
theorem dX8_addClause_6 : decode cX8_addClause 6 = .ok (.ifCond .ne 7, 3) := by decide +kernel
theorem dX8_addClause_9 : decode cX8_addClause 9 = .ok (.iconst 1, 1) := by decide +kernel
theorem dX8_addClause_10 : decode cX8_addClause 10 = .ok (.goto 19, 3) := by decide +kernel
theorem dX8_addClause_13 : decode cX8_addClause 13 = .ok (.aload_n 0, 1) := by decide +kernel
theorem dX8_addClause_14 : decode cX8_addClause 14 = .ok (.getfield 7, 3) := by decide +kernel
theorem dX8_addClause_17 : decode cX8_addClause 17 = .ok (.iconst 0, 1) := by decide +kernel
theorem dX8_addClause_18 : decode cX8_addClause 18 = .ok (.iaload, 1) := by decide +kernel
theorem dX8_addClause_19 : decode cX8_addClause 19 = .ok (.bipush 24, 2) := by decide +kernel
theorem dX8_addClause_21 : decode cX8_addClause 21 = .ok (.if_icmp .ne 7, 3) := by decide +kernel
theorem dX8_addClause_24 : decode cX8_addClause 24 = .ok (.iconst 2, 1) := by decide +kernel
theorem dX8_addClause_25 : decode cX8_addClause 25 = .ok (.goto 4, 3) := by decide +kernel
theorem dX8_addClause_28 : decode cX8_addClause 28 = .ok (.iconst 0, 1) := by decide +kernel
theorem dX8_addClause_29 : decode cX8_addClause 29 = .ok (.invokevirtual 118, 3) := by decide +kernel
theorem dX8_addClause_32 : decode cX8_addClause 32 = .ok (.ifCond .eq 5, 3) := by decide +kernel
theorem dX8_addClause_35 : decode cX8_addClause 35 = .ok (.iconst 0, 1) := by decide +kernel
theorem dX8_addClause_36 : decode cX8_addClause 36 = .ok (.ireturn, 1) := by decide +kernel
theorem dX8_addClause_37 : decode cX8_addClause 37 = .ok (.aload_n 0, 1) := by decide +kernel
theorem dX8_addClause_38 : decode cX8_addClause 38 = .ok (.iconst 0, 1) := by decide +kernel
theorem dX8_addClause_39 : decode cX8_addClause 39 = .ok (.iload_n 1, 1) := by decide +kernel
theorem dX8_addClause_40 : decode cX8_addClause 40 = .ok (.iload_n 2, 1) := by decide +kernel
theorem dX8_addClause_41 : decode cX8_addClause 41 = .ok (.invokevirtual 160, 3) := by decide +kernel
theorem dX8_addClause_44 : decode cX8_addClause 44 = .ok (.ireturn, 1) := by decide +kernel
theorem dX8_addParity_0 : decode cX8_addParity 0 = .ok (.aload_n 0, 1) := by decide +kernel
theorem dX8_addParity_1 : decode cX8_addParity 1 = .ok (.iload_n 1, 1) := by decide +kernel
theorem dX8_addParity_2 : decode cX8_addParity 2 = .ok (.iload_n 2, 1) := by decide +kernel
theorem dX8_addParity_3 : decode cX8_addParity 3 = .ok (.invokestatic 164, 3) := by decide +kernel
theorem dX8_addParity_6 : decode cX8_addParity 6 = .ok (.ifCond .ne 7, 3) := by decide +kernel
theorem dX8_addParity_9 : decode cX8_addParity 9 = .ok (.iconst 1, 1) := by decide +kernel
theorem dX8_addParity_10 : decode cX8_addParity 10 = .ok (.goto 19, 3) := by decide +kernel
theorem dX8_addParity_13 : decode cX8_addParity 13 = .ok (.aload_n 0, 1) := by decide +kernel
theorem dX8_addParity_14 : decode cX8_addParity 14 = .ok (.getfield 7, 3) := by decide +kernel
theorem dX8_addParity_17 : decode cX8_addParity 17 = .ok (.iconst 0, 1) := by decide +kernel
theorem dX8_addParity_18 : decode cX8_addParity 18 = .ok (.iaload, 1) := by decide +kernel
theorem dX8_addParity_19 : decode cX8_addParity 19 = .ok (.bipush 24, 2) := by decide +kernel
theorem dX8_addParity_21 : decode cX8_addParity 21 = .ok (.if_icmp .ne 7, 3) := by decide +kernel
theorem dX8_addParity_24 : decode cX8_addParity 24 = .ok (.iconst 2, 1) := by decide +kernel
theorem dX8_addParity_25 : decode cX8_addParity 25 = .ok (.goto 4, 3) := by decide +kernel
theorem dX8_addParity_28 : decode cX8_addParity 28 = .ok (.iconst 0, 1) := by decide +kernel
theorem dX8_addParity_29 : decode cX8_addParity 29 = .ok (.invokevirtual 118, 3) := by decide +kernel
theorem dX8_addParity_32 : decode cX8_addParity 32 = .ok (.ifCond .eq 5, 3) := by decide +kernel
theorem dX8_addParity_35 : decode cX8_addParity 35 = .ok (.iconst 0, 1) := by decide +kernel
theorem dX8_addParity_36 : decode cX8_addParity 36 = .ok (.ireturn, 1) := by decide +kernel
theorem dX8_addParity_37 : decode cX8_addParity 37 = .ok (.aload_n 0, 1) := by decide +kernel
theorem dX8_addParity_38 : decode cX8_addParity 38 = .ok (.iconst 1, 1) := by decide +kernel
theorem dX8_addParity_39 : decode cX8_addParity 39 = .ok (.iload_n 1, 1) := by decide +kernel
theorem dX8_addParity_40 : decode cX8_addParity 40 = .ok (.iload_n 2, 1) := by decide +kernel
theorem dX8_addParity_41 : decode cX8_addParity 41 = .ok (.invokevirtual 160, 3) := by decide +kernel
theorem dX8_addParity_44 : decode cX8_addParity 44 = .ok (.ireturn, 1) := by decide +kernel
theorem dX8_removeConstraint_0 : decode cX8_removeConstraint 0 = .ok (.aload_n 0, 1) := by decide +kernel
theorem dX8_removeConstraint_1 : decode cX8_removeConstraint 1 = .ok (.aload_n 0, 1) := by decide +kernel
theorem dX8_removeConstraint_2 : decode cX8_removeConstraint 2 = .ok (.iload_n 1, 1) := by decide +kernel
theorem dX8_removeConstraint_3 : decode cX8_removeConstraint 3 = .ok (.invokevirtual 151, 3) := by decide +kernel
theorem dX8_removeConstraint_6 : decode cX8_removeConstraint 6 = .ok (.ifCond .eq 7, 3) := by decide +kernel
theorem dX8_removeConstraint_9 : decode cX8_removeConstraint 9 = .ok (.iconst 0, 1) := by decide +kernel
theorem dX8_removeConstraint_10 : decode cX8_removeConstraint 10 = .ok (.goto 4, 3) := by decide +kernel
theorem dX8_removeConstraint_13 : decode cX8_removeConstraint 13 = .ok (.iconst 1, 1) := by decide +kernel
theorem dX8_removeConstraint_14 : decode cX8_removeConstraint 14 = .ok (.invokevirtual 118, 3) := by decide +kernel
theorem dX8_removeConstraint_17 : decode cX8_removeConstraint 17 = .ok (.ifCond .eq 5, 3) := by decide +kernel
theorem dX8_removeConstraint_20 : decode cX8_removeConstraint 20 = .ok (.iconst 0, 1) := by decide +kernel
theorem dX8_removeConstraint_21 : decode cX8_removeConstraint 21 = .ok (.ireturn, 1) := by decide +kernel
theorem dX8_removeConstraint_22 : decode cX8_removeConstraint 22 = .ok (.aload_n 0, 1) := by decide +kernel
theorem dX8_removeConstraint_23 : decode cX8_removeConstraint 23 = .ok (.getfield 7, 3) := by decide +kernel
theorem dX8_removeConstraint_26 : decode cX8_removeConstraint 26 = .ok (.aload_n 0, 1) := by decide +kernel
theorem dX8_removeConstraint_27 : decode cX8_removeConstraint 27 = .ok (.getfield 13, 3) := by decide +kernel
theorem dX8_removeConstraint_30 : decode cX8_removeConstraint 30 = .ok (.invokestatic 102, 3) := by decide +kernel
theorem dX8_removeConstraint_33 : decode cX8_removeConstraint 33 = .ok (.aload_n 0, 1) := by decide +kernel
theorem dX8_removeConstraint_34 : decode cX8_removeConstraint 34 = .ok (.getfield 13, 3) := by decide +kernel
theorem dX8_removeConstraint_37 : decode cX8_removeConstraint 37 = .ok (.iconst 0, 1) := by decide +kernel
theorem dX8_removeConstraint_38 : decode cX8_removeConstraint 38 = .ok (.dup2, 1) := by decide +kernel
theorem dX8_removeConstraint_39 : decode cX8_removeConstraint 39 = .ok (.iaload, 1) := by decide +kernel
theorem dX8_removeConstraint_40 : decode cX8_removeConstraint 40 = .ok (.iconst 1, 1) := by decide +kernel
theorem dX8_removeConstraint_41 : decode cX8_removeConstraint 41 = .ok (.isub, 1) := by decide +kernel
theorem dX8_removeConstraint_42 : decode cX8_removeConstraint 42 = .ok (.iastore, 1) := by decide +kernel
theorem dX8_removeConstraint_43 : decode cX8_removeConstraint 43 = .ok (.iload_n 1, 1) := by decide +kernel
theorem dX8_removeConstraint_44 : decode cX8_removeConstraint 44 = .ok (.istore_n 2, 1) := by decide +kernel
theorem dX8_removeConstraint_45 : decode cX8_removeConstraint 45 = .ok (.iload_n 2, 1) := by decide +kernel
theorem dX8_removeConstraint_46 : decode cX8_removeConstraint 46 = .ok (.aload_n 0, 1) := by decide +kernel
theorem dX8_removeConstraint_47 : decode cX8_removeConstraint 47 = .ok (.getfield 13, 3) := by decide +kernel
theorem dX8_removeConstraint_50 : decode cX8_removeConstraint 50 = .ok (.iconst 0, 1) := by decide +kernel
theorem dX8_removeConstraint_51 : decode cX8_removeConstraint 51 = .ok (.iaload, 1) := by decide +kernel
theorem dX8_removeConstraint_52 : decode cX8_removeConstraint 52 = .ok (.if_icmp .ge 67, 3) := by decide +kernel
theorem dX8_removeConstraint_55 : decode cX8_removeConstraint 55 = .ok (.aload_n 0, 1) := by decide +kernel
theorem dX8_removeConstraint_56 : decode cX8_removeConstraint 56 = .ok (.getfield 13, 3) := by decide +kernel
theorem dX8_removeConstraint_59 : decode cX8_removeConstraint 59 = .ok (.iconst 1, 1) := by decide +kernel
theorem dX8_removeConstraint_60 : decode cX8_removeConstraint 60 = .ok (.iload_n 2, 1) := by decide +kernel
theorem dX8_removeConstraint_61 : decode cX8_removeConstraint 61 = .ok (.iadd, 1) := by decide +kernel
theorem dX8_removeConstraint_62 : decode cX8_removeConstraint 62 = .ok (.aload_n 0, 1) := by decide +kernel
theorem dX8_removeConstraint_63 : decode cX8_removeConstraint 63 = .ok (.getfield 13, 3) := by decide +kernel
theorem dX8_removeConstraint_66 : decode cX8_removeConstraint 66 = .ok (.iconst 1, 1) := by decide +kernel
theorem dX8_removeConstraint_67 : decode cX8_removeConstraint 67 = .ok (.iload_n 2, 1) := by decide +kernel
theorem dX8_removeConstraint_68 : decode cX8_removeConstraint 68 = .ok (.iadd, 1) := by decide +kernel
theorem dX8_removeConstraint_69 : decode cX8_removeConstraint 69 = .ok (.iconst 1, 1) := by decide +kernel
theorem dX8_removeConstraint_70 : decode cX8_removeConstraint 70 = .ok (.iadd, 1) := by decide +kernel
theorem dX8_removeConstraint_71 : decode cX8_removeConstraint 71 = .ok (.iaload, 1) := by decide +kernel
theorem dX8_removeConstraint_72 : decode cX8_removeConstraint 72 = .ok (.iastore, 1) := by decide +kernel
theorem dX8_removeConstraint_73 : decode cX8_removeConstraint 73 = .ok (.aload_n 0, 1) := by decide +kernel
theorem dX8_removeConstraint_74 : decode cX8_removeConstraint 74 = .ok (.getfield 13, 3) := by decide +kernel
theorem dX8_removeConstraint_77 : decode cX8_removeConstraint 77 = .ok (.bipush 25, 2) := by decide +kernel
theorem dX8_removeConstraint_79 : decode cX8_removeConstraint 79 = .ok (.iload_n 2, 1) := by decide +kernel
theorem dX8_removeConstraint_80 : decode cX8_removeConstraint 80 = .ok (.iadd, 1) := by decide +kernel
theorem dX8_removeConstraint_81 : decode cX8_removeConstraint 81 = .ok (.aload_n 0, 1) := by decide +kernel
theorem dX8_removeConstraint_82 : decode cX8_removeConstraint 82 = .ok (.getfield 13, 3) := by decide +kernel
theorem dX8_removeConstraint_85 : decode cX8_removeConstraint 85 = .ok (.bipush 25, 2) := by decide +kernel
theorem dX8_removeConstraint_87 : decode cX8_removeConstraint 87 = .ok (.iload_n 2, 1) := by decide +kernel
theorem dX8_removeConstraint_88 : decode cX8_removeConstraint 88 = .ok (.iadd, 1) := by decide +kernel
theorem dX8_removeConstraint_89 : decode cX8_removeConstraint 89 = .ok (.iconst 1, 1) := by decide +kernel
theorem dX8_removeConstraint_90 : decode cX8_removeConstraint 90 = .ok (.iadd, 1) := by decide +kernel
theorem dX8_removeConstraint_91 : decode cX8_removeConstraint 91 = .ok (.iaload, 1) := by decide +kernel
theorem dX8_removeConstraint_92 : decode cX8_removeConstraint 92 = .ok (.iastore, 1) := by decide +kernel
theorem dX8_removeConstraint_93 : decode cX8_removeConstraint 93 = .ok (.aload_n 0, 1) := by decide +kernel
theorem dX8_removeConstraint_94 : decode cX8_removeConstraint 94 = .ok (.getfield 13, 3) := by decide +kernel
theorem dX8_removeConstraint_97 : decode cX8_removeConstraint 97 = .ok (.bipush 49, 2) := by decide +kernel
theorem dX8_removeConstraint_99 : decode cX8_removeConstraint 99 = .ok (.iload_n 2, 1) := by decide +kernel
theorem dX8_removeConstraint_100 : decode cX8_removeConstraint 100 = .ok (.iadd, 1) := by decide +kernel
theorem dX8_removeConstraint_101 : decode cX8_removeConstraint 101 = .ok (.aload_n 0, 1) := by decide +kernel
theorem dX8_removeConstraint_102 : decode cX8_removeConstraint 102 = .ok (.getfield 13, 3) := by decide +kernel
theorem dX8_removeConstraint_105 : decode cX8_removeConstraint 105 = .ok (.bipush 49, 2) := by decide +kernel
theorem dX8_removeConstraint_107 : decode cX8_removeConstraint 107 = .ok (.iload_n 2, 1) := by decide +kernel
theorem dX8_removeConstraint_108 : decode cX8_removeConstraint 108 = .ok (.iadd, 1) := by decide +kernel
theorem dX8_removeConstraint_109 : decode cX8_removeConstraint 109 = .ok (.iconst 1, 1) := by decide +kernel
theorem dX8_removeConstraint_110 : decode cX8_removeConstraint 110 = .ok (.iadd, 1) := by decide +kernel
theorem dX8_removeConstraint_111 : decode cX8_removeConstraint 111 = .ok (.iaload, 1) := by decide +kernel
theorem dX8_removeConstraint_112 : decode cX8_removeConstraint 112 = .ok (.iastore, 1) := by decide +kernel
theorem dX8_removeConstraint_113 : decode cX8_removeConstraint 113 = .ok (.iinc 2 1, 3) := by decide +kernel
theorem dX8_removeConstraint_116 : decode cX8_removeConstraint 116 = .ok (.goto (-71), 3) := by decide +kernel
theorem dX8_removeConstraint_119 : decode cX8_removeConstraint 119 = .ok (.aload_n 0, 1) := by decide +kernel
theorem dX8_removeConstraint_120 : decode cX8_removeConstraint 120 = .ok (.invokevirtual 154, 3) := by decide +kernel
theorem dX8_removeConstraint_123 : decode cX8_removeConstraint 123 = .ok (.aload_n 0, 1) := by decide +kernel
theorem dX8_removeConstraint_124 : decode cX8_removeConstraint 124 = .ok (.getfield 7, 3) := by decide +kernel
theorem dX8_removeConstraint_127 : decode cX8_removeConstraint 127 = .ok (.iconst 0, 1) := by decide +kernel
theorem dX8_removeConstraint_128 : decode cX8_removeConstraint 128 = .ok (.iaload, 1) := by decide +kernel
theorem dX8_removeConstraint_129 : decode cX8_removeConstraint 129 = .ok (.ireturn, 1) := by decide +kernel
theorem dX8_resolve_0 : decode cX8_resolve 0 = .ok (.aload_n 0, 1) := by decide +kernel
theorem dX8_resolve_1 : decode cX8_resolve 1 = .ok (.aload_n 0, 1) := by decide +kernel
theorem dX8_resolve_2 : decode cX8_resolve 2 = .ok (.iload_n 1, 1) := by decide +kernel
theorem dX8_resolve_3 : decode cX8_resolve 3 = .ok (.invokevirtual 151, 3) := by decide +kernel
theorem dX8_resolve_6 : decode cX8_resolve 6 = .ok (.ifCond .eq 27, 3) := by decide +kernel
theorem dX8_resolve_9 : decode cX8_resolve 9 = .ok (.aload_n 0, 1) := by decide +kernel
theorem dX8_resolve_10 : decode cX8_resolve 10 = .ok (.iload_n 2, 1) := by decide +kernel
theorem dX8_resolve_11 : decode cX8_resolve 11 = .ok (.invokevirtual 151, 3) := by decide +kernel
theorem dX8_resolve_14 : decode cX8_resolve 14 = .ok (.ifCond .eq 19, 3) := by decide +kernel
theorem dX8_resolve_17 : decode cX8_resolve 17 = .ok (.iload_n 3, 1) := by decide +kernel
theorem dX8_resolve_18 : decode cX8_resolve 18 = .ok (.i2l, 1) := by decide +kernel
theorem dX8_resolve_19 : decode cX8_resolve 19 = .ok (.lconst 0, 1) := by decide +kernel
theorem dX8_resolve_20 : decode cX8_resolve 20 = .ok (.ldc2_w 167, 3) := by decide +kernel
theorem dX8_resolve_23 : decode cX8_resolve 23 = .ok (.invokestatic 111, 3) := by decide +kernel
theorem dX8_resolve_26 : decode cX8_resolve 26 = .ok (.ifCond .eq 7, 3) := by decide +kernel
theorem dX8_resolve_29 : decode cX8_resolve 29 = .ok (.iconst 0, 1) := by decide +kernel
theorem dX8_resolve_30 : decode cX8_resolve 30 = .ok (.goto 4, 3) := by decide +kernel
theorem dX8_resolve_33 : decode cX8_resolve 33 = .ok (.iconst 1, 1) := by decide +kernel
theorem dX8_resolve_34 : decode cX8_resolve 34 = .ok (.invokevirtual 118, 3) := by decide +kernel
theorem dX8_resolve_37 : decode cX8_resolve 37 = .ok (.ifCond .eq 5, 3) := by decide +kernel
theorem dX8_resolve_40 : decode cX8_resolve 40 = .ok (.iconst 0, 1) := by decide +kernel
theorem dX8_resolve_41 : decode cX8_resolve 41 = .ok (.ireturn, 1) := by decide +kernel
theorem dX8_resolve_42 : decode cX8_resolve 42 = .ok (.aload_n 0, 1) := by decide +kernel
theorem dX8_resolve_43 : decode cX8_resolve 43 = .ok (.getfield 7, 3) := by decide +kernel
theorem dX8_resolve_46 : decode cX8_resolve 46 = .ok (.bipush 25, 2) := by decide +kernel
theorem dX8_resolve_48 : decode cX8_resolve 48 = .ok (.iload_n 1, 1) := by decide +kernel
theorem dX8_resolve_49 : decode cX8_resolve 49 = .ok (.iadd, 1) := by decide +kernel
theorem dX8_resolve_50 : decode cX8_resolve 50 = .ok (.iaload, 1) := by decide +kernel
theorem dX8_resolve_51 : decode cX8_resolve 51 = .ok (.aload_n 0, 1) := by decide +kernel
theorem dX8_resolve_52 : decode cX8_resolve 52 = .ok (.getfield 7, 3) := by decide +kernel
theorem dX8_resolve_55 : decode cX8_resolve 55 = .ok (.bipush 25, 2) := by decide +kernel
theorem dX8_resolve_57 : decode cX8_resolve 57 = .ok (.iload_n 2, 1) := by decide +kernel
theorem dX8_resolve_58 : decode cX8_resolve 58 = .ok (.iadd, 1) := by decide +kernel
theorem dX8_resolve_59 : decode cX8_resolve 59 = .ok (.iaload, 1) := by decide +kernel
theorem dX8_resolve_60 : decode cX8_resolve 60 = .ok (.ior, 1) := by decide +kernel
theorem dX8_resolve_61 : decode cX8_resolve 61 = .ok (.iconst 1, 1) := by decide +kernel
theorem dX8_resolve_62 : decode cX8_resolve 62 = .ok (.iload_n 3, 1) := by decide +kernel
theorem dX8_resolve_63 : decode cX8_resolve 63 = .ok (.ishl, 1) := by decide +kernel
theorem dX8_resolve_64 : decode cX8_resolve 64 = .ok (.iconst (-1), 1) := by decide +kernel
theorem dX8_resolve_65 : decode cX8_resolve 65 = .ok (.ixor, 1) := by decide +kernel
theorem dX8_resolve_66 : decode cX8_resolve 66 = .ok (.iand, 1) := by decide +kernel
theorem dX8_resolve_67 : decode cX8_resolve 67 = .ok (.istore 4, 2) := by decide +kernel
theorem dX8_resolve_69 : decode cX8_resolve 69 = .ok (.aload_n 0, 1) := by decide +kernel
theorem dX8_resolve_70 : decode cX8_resolve 70 = .ok (.getfield 7, 3) := by decide +kernel
theorem dX8_resolve_73 : decode cX8_resolve 73 = .ok (.bipush 49, 2) := by decide +kernel
theorem dX8_resolve_75 : decode cX8_resolve 75 = .ok (.iload_n 1, 1) := by decide +kernel
theorem dX8_resolve_76 : decode cX8_resolve 76 = .ok (.iadd, 1) := by decide +kernel
theorem dX8_resolve_77 : decode cX8_resolve 77 = .ok (.iaload, 1) := by decide +kernel
theorem dX8_resolve_78 : decode cX8_resolve 78 = .ok (.aload_n 0, 1) := by decide +kernel
theorem dX8_resolve_79 : decode cX8_resolve 79 = .ok (.getfield 7, 3) := by decide +kernel
theorem dX8_resolve_82 : decode cX8_resolve 82 = .ok (.bipush 49, 2) := by decide +kernel
theorem dX8_resolve_84 : decode cX8_resolve 84 = .ok (.iload_n 2, 1) := by decide +kernel
theorem dX8_resolve_85 : decode cX8_resolve 85 = .ok (.iadd, 1) := by decide +kernel
theorem dX8_resolve_86 : decode cX8_resolve 86 = .ok (.iaload, 1) := by decide +kernel
theorem dX8_resolve_87 : decode cX8_resolve 87 = .ok (.ior, 1) := by decide +kernel
theorem dX8_resolve_88 : decode cX8_resolve 88 = .ok (.iconst 1, 1) := by decide +kernel
theorem dX8_resolve_89 : decode cX8_resolve 89 = .ok (.iload_n 3, 1) := by decide +kernel
theorem dX8_resolve_90 : decode cX8_resolve 90 = .ok (.ishl, 1) := by decide +kernel
theorem dX8_resolve_91 : decode cX8_resolve 91 = .ok (.iconst (-1), 1) := by decide +kernel
theorem dX8_resolve_92 : decode cX8_resolve 92 = .ok (.ixor, 1) := by decide +kernel
theorem dX8_resolve_93 : decode cX8_resolve 93 = .ok (.iand, 1) := by decide +kernel
theorem dX8_resolve_94 : decode cX8_resolve 94 = .ok (.istore 5, 2) := by decide +kernel
theorem dX8_resolve_96 : decode cX8_resolve 96 = .ok (.aload_n 0, 1) := by decide +kernel
theorem dX8_resolve_97 : decode cX8_resolve 97 = .ok (.getfield 7, 3) := by decide +kernel
theorem dX8_resolve_100 : decode cX8_resolve 100 = .ok (.iconst 1, 1) := by decide +kernel
theorem dX8_resolve_101 : decode cX8_resolve 101 = .ok (.iload_n 1, 1) := by decide +kernel
theorem dX8_resolve_102 : decode cX8_resolve 102 = .ok (.iadd, 1) := by decide +kernel
theorem dX8_resolve_103 : decode cX8_resolve 103 = .ok (.iaload, 1) := by decide +kernel
theorem dX8_resolve_104 : decode cX8_resolve 104 = .ok (.ifCond .ne 69, 3) := by decide +kernel
theorem dX8_resolve_107 : decode cX8_resolve 107 = .ok (.aload_n 0, 1) := by decide +kernel
theorem dX8_resolve_108 : decode cX8_resolve 108 = .ok (.getfield 7, 3) := by decide +kernel
theorem dX8_resolve_111 : decode cX8_resolve 111 = .ok (.iconst 1, 1) := by decide +kernel
theorem dX8_resolve_112 : decode cX8_resolve 112 = .ok (.iload_n 2, 1) := by decide +kernel
theorem dX8_resolve_113 : decode cX8_resolve 113 = .ok (.iadd, 1) := by decide +kernel
theorem dX8_resolve_114 : decode cX8_resolve 114 = .ok (.iaload, 1) := by decide +kernel
theorem dX8_resolve_115 : decode cX8_resolve 115 = .ok (.ifCond .ne 58, 3) := by decide +kernel
theorem dX8_resolve_118 : decode cX8_resolve 118 = .ok (.aload_n 0, 1) := by decide +kernel
theorem dX8_resolve_119 : decode cX8_resolve 119 = .ok (.getfield 7, 3) := by decide +kernel
theorem dX8_resolve_122 : decode cX8_resolve 122 = .ok (.bipush 25, 2) := by decide +kernel
theorem dX8_resolve_124 : decode cX8_resolve 124 = .ok (.iload_n 1, 1) := by decide +kernel
theorem dX8_resolve_125 : decode cX8_resolve 125 = .ok (.iadd, 1) := by decide +kernel
theorem dX8_resolve_126 : decode cX8_resolve 126 = .ok (.iaload, 1) := by decide +kernel
theorem dX8_resolve_127 : decode cX8_resolve 127 = .ok (.iload_n 3, 1) := by decide +kernel
theorem dX8_resolve_128 : decode cX8_resolve 128 = .ok (.invokestatic 54, 3) := by decide +kernel
theorem dX8_resolve_131 : decode cX8_resolve 131 = .ok (.ifCond .eq 42, 3) := by decide +kernel
theorem dX8_resolve_134 : decode cX8_resolve 134 = .ok (.aload_n 0, 1) := by decide +kernel
theorem dX8_resolve_135 : decode cX8_resolve 135 = .ok (.getfield 7, 3) := by decide +kernel
theorem dX8_resolve_138 : decode cX8_resolve 138 = .ok (.bipush 49, 2) := by decide +kernel
theorem dX8_resolve_140 : decode cX8_resolve 140 = .ok (.iload_n 2, 1) := by decide +kernel
theorem dX8_resolve_141 : decode cX8_resolve 141 = .ok (.iadd, 1) := by decide +kernel
theorem dX8_resolve_142 : decode cX8_resolve 142 = .ok (.iaload, 1) := by decide +kernel
theorem dX8_resolve_143 : decode cX8_resolve 143 = .ok (.iload_n 3, 1) := by decide +kernel
theorem dX8_resolve_144 : decode cX8_resolve 144 = .ok (.invokestatic 54, 3) := by decide +kernel
theorem dX8_resolve_147 : decode cX8_resolve 147 = .ok (.ifCond .eq 26, 3) := by decide +kernel
theorem dX8_resolve_150 : decode cX8_resolve 150 = .ok (.iload 4, 2) := by decide +kernel
theorem dX8_resolve_152 : decode cX8_resolve 152 = .ok (.iload 5, 2) := by decide +kernel
theorem dX8_resolve_154 : decode cX8_resolve 154 = .ok (.iand, 1) := by decide +kernel
theorem dX8_resolve_155 : decode cX8_resolve 155 = .ok (.ifCond .ne 18, 3) := by decide +kernel
theorem dX8_resolve_158 : decode cX8_resolve 158 = .ok (.aload_n 0, 1) := by decide +kernel
theorem dX8_resolve_159 : decode cX8_resolve 159 = .ok (.getfield 7, 3) := by decide +kernel
theorem dX8_resolve_162 : decode cX8_resolve 162 = .ok (.iconst 0, 1) := by decide +kernel
theorem dX8_resolve_163 : decode cX8_resolve 163 = .ok (.iaload, 1) := by decide +kernel
theorem dX8_resolve_164 : decode cX8_resolve 164 = .ok (.bipush 24, 2) := by decide +kernel
theorem dX8_resolve_166 : decode cX8_resolve 166 = .ok (.if_icmp .ge 7, 3) := by decide +kernel
theorem dX8_resolve_169 : decode cX8_resolve 169 = .ok (.iconst 1, 1) := by decide +kernel
theorem dX8_resolve_170 : decode cX8_resolve 170 = .ok (.goto 4, 3) := by decide +kernel
theorem dX8_resolve_173 : decode cX8_resolve 173 = .ok (.iconst 0, 1) := by decide +kernel
theorem dX8_resolve_174 : decode cX8_resolve 174 = .ok (.istore 6, 2) := by decide +kernel
theorem dX8_resolve_176 : decode cX8_resolve 176 = .ok (.aload_n 0, 1) := by decide +kernel
theorem dX8_resolve_177 : decode cX8_resolve 177 = .ok (.iload 6, 2) := by decide +kernel
theorem dX8_resolve_179 : decode cX8_resolve 179 = .ok (.ifCond .eq 7, 3) := by decide +kernel
theorem dX8_resolve_182 : decode cX8_resolve 182 = .ok (.iconst 0, 1) := by decide +kernel
theorem dX8_resolve_183 : decode cX8_resolve 183 = .ok (.goto 4, 3) := by decide +kernel
theorem dX8_resolve_186 : decode cX8_resolve 186 = .ok (.iconst 2, 1) := by decide +kernel
theorem dX8_resolve_187 : decode cX8_resolve 187 = .ok (.invokevirtual 118, 3) := by decide +kernel
theorem dX8_resolve_190 : decode cX8_resolve 190 = .ok (.ifCond .eq 5, 3) := by decide +kernel
theorem dX8_resolve_193 : decode cX8_resolve 193 = .ok (.iconst 0, 1) := by decide +kernel
theorem dX8_resolve_194 : decode cX8_resolve 194 = .ok (.ireturn, 1) := by decide +kernel
theorem dX8_resolve_195 : decode cX8_resolve 195 = .ok (.aload_n 0, 1) := by decide +kernel
theorem dX8_resolve_196 : decode cX8_resolve 196 = .ok (.iconst 0, 1) := by decide +kernel
theorem dX8_resolve_197 : decode cX8_resolve 197 = .ok (.iload 4, 2) := by decide +kernel
theorem dX8_resolve_199 : decode cX8_resolve 199 = .ok (.iload 5, 2) := by decide +kernel
theorem dX8_resolve_201 : decode cX8_resolve 201 = .ok (.invokevirtual 160, 3) := by decide +kernel
theorem dX8_resolve_204 : decode cX8_resolve 204 = .ok (.ireturn, 1) := by decide +kernel
theorem dX8_sum_0 : decode cX8_sum 0 = .ok (.aload_n 0, 1) := by decide +kernel
theorem dX8_sum_1 : decode cX8_sum 1 = .ok (.aload_n 0, 1) := by decide +kernel
theorem dX8_sum_2 : decode cX8_sum 2 = .ok (.iload_n 1, 1) := by decide +kernel
theorem dX8_sum_3 : decode cX8_sum 3 = .ok (.invokevirtual 151, 3) := by decide +kernel
theorem dX8_sum_6 : decode cX8_sum 6 = .ok (.ifCond .eq 15, 3) := by decide +kernel
theorem dX8_sum_9 : decode cX8_sum 9 = .ok (.aload_n 0, 1) := by decide +kernel
theorem dX8_sum_10 : decode cX8_sum 10 = .ok (.iload_n 2, 1) := by decide +kernel
theorem dX8_sum_11 : decode cX8_sum 11 = .ok (.invokevirtual 151, 3) := by decide +kernel
theorem dX8_sum_14 : decode cX8_sum 14 = .ok (.ifCond .eq 7, 3) := by decide +kernel
theorem dX8_sum_17 : decode cX8_sum 17 = .ok (.iconst 0, 1) := by decide +kernel
theorem dX8_sum_18 : decode cX8_sum 18 = .ok (.goto 4, 3) := by decide +kernel
theorem dX8_sum_21 : decode cX8_sum 21 = .ok (.iconst 1, 1) := by decide +kernel
theorem dX8_sum_22 : decode cX8_sum 22 = .ok (.invokevirtual 118, 3) := by decide +kernel
theorem dX8_sum_25 : decode cX8_sum 25 = .ok (.ifCond .eq 5, 3) := by decide +kernel
theorem dX8_sum_28 : decode cX8_sum 28 = .ok (.iconst 0, 1) := by decide +kernel
theorem dX8_sum_29 : decode cX8_sum 29 = .ok (.ireturn, 1) := by decide +kernel
theorem dX8_sum_30 : decode cX8_sum 30 = .ok (.aload_n 0, 1) := by decide +kernel
theorem dX8_sum_31 : decode cX8_sum 31 = .ok (.aload_n 0, 1) := by decide +kernel
theorem dX8_sum_32 : decode cX8_sum 32 = .ok (.getfield 7, 3) := by decide +kernel
theorem dX8_sum_35 : decode cX8_sum 35 = .ok (.iconst 1, 1) := by decide +kernel
theorem dX8_sum_36 : decode cX8_sum 36 = .ok (.iload_n 1, 1) := by decide +kernel
theorem dX8_sum_37 : decode cX8_sum 37 = .ok (.iadd, 1) := by decide +kernel
theorem dX8_sum_38 : decode cX8_sum 38 = .ok (.iaload, 1) := by decide +kernel
theorem dX8_sum_39 : decode cX8_sum 39 = .ok (.iconst 1, 1) := by decide +kernel
theorem dX8_sum_40 : decode cX8_sum 40 = .ok (.if_icmp .ne 30, 3) := by decide +kernel
theorem dX8_sum_43 : decode cX8_sum 43 = .ok (.aload_n 0, 1) := by decide +kernel
theorem dX8_sum_44 : decode cX8_sum 44 = .ok (.getfield 7, 3) := by decide +kernel
theorem dX8_sum_47 : decode cX8_sum 47 = .ok (.iconst 1, 1) := by decide +kernel
theorem dX8_sum_48 : decode cX8_sum 48 = .ok (.iload_n 2, 1) := by decide +kernel
theorem dX8_sum_49 : decode cX8_sum 49 = .ok (.iadd, 1) := by decide +kernel
theorem dX8_sum_50 : decode cX8_sum 50 = .ok (.iaload, 1) := by decide +kernel
theorem dX8_sum_51 : decode cX8_sum 51 = .ok (.iconst 1, 1) := by decide +kernel
theorem dX8_sum_52 : decode cX8_sum 52 = .ok (.if_icmp .ne 18, 3) := by decide +kernel
theorem dX8_sum_55 : decode cX8_sum 55 = .ok (.aload_n 0, 1) := by decide +kernel
theorem dX8_sum_56 : decode cX8_sum 56 = .ok (.getfield 7, 3) := by decide +kernel
theorem dX8_sum_59 : decode cX8_sum 59 = .ok (.iconst 0, 1) := by decide +kernel
theorem dX8_sum_60 : decode cX8_sum 60 = .ok (.iaload, 1) := by decide +kernel
theorem dX8_sum_61 : decode cX8_sum 61 = .ok (.bipush 24, 2) := by decide +kernel
theorem dX8_sum_63 : decode cX8_sum 63 = .ok (.if_icmp .ge 7, 3) := by decide +kernel
theorem dX8_sum_66 : decode cX8_sum 66 = .ok (.iconst 0, 1) := by decide +kernel
theorem dX8_sum_67 : decode cX8_sum 67 = .ok (.goto 4, 3) := by decide +kernel
theorem dX8_sum_70 : decode cX8_sum 70 = .ok (.iconst 2, 1) := by decide +kernel
theorem dX8_sum_71 : decode cX8_sum 71 = .ok (.invokevirtual 118, 3) := by decide +kernel
theorem dX8_sum_74 : decode cX8_sum 74 = .ok (.ifCond .eq 5, 3) := by decide +kernel
theorem dX8_sum_77 : decode cX8_sum 77 = .ok (.iconst 0, 1) := by decide +kernel
theorem dX8_sum_78 : decode cX8_sum 78 = .ok (.ireturn, 1) := by decide +kernel
theorem dX8_sum_79 : decode cX8_sum 79 = .ok (.aload_n 0, 1) := by decide +kernel
theorem dX8_sum_80 : decode cX8_sum 80 = .ok (.iconst 1, 1) := by decide +kernel
theorem dX8_sum_81 : decode cX8_sum 81 = .ok (.aload_n 0, 1) := by decide +kernel
theorem dX8_sum_82 : decode cX8_sum 82 = .ok (.getfield 7, 3) := by decide +kernel
theorem dX8_sum_85 : decode cX8_sum 85 = .ok (.bipush 25, 2) := by decide +kernel
theorem dX8_sum_87 : decode cX8_sum 87 = .ok (.iload_n 1, 1) := by decide +kernel
theorem dX8_sum_88 : decode cX8_sum 88 = .ok (.iadd, 1) := by decide +kernel
theorem dX8_sum_89 : decode cX8_sum 89 = .ok (.iaload, 1) := by decide +kernel
theorem dX8_sum_90 : decode cX8_sum 90 = .ok (.aload_n 0, 1) := by decide +kernel
theorem dX8_sum_91 : decode cX8_sum 91 = .ok (.getfield 7, 3) := by decide +kernel
theorem dX8_sum_94 : decode cX8_sum 94 = .ok (.bipush 25, 2) := by decide +kernel
theorem dX8_sum_96 : decode cX8_sum 96 = .ok (.iload_n 2, 1) := by decide +kernel
theorem dX8_sum_97 : decode cX8_sum 97 = .ok (.iadd, 1) := by decide +kernel
theorem dX8_sum_98 : decode cX8_sum 98 = .ok (.iaload, 1) := by decide +kernel
theorem dX8_sum_99 : decode cX8_sum 99 = .ok (.ixor, 1) := by decide +kernel
theorem dX8_sum_100 : decode cX8_sum 100 = .ok (.aload_n 0, 1) := by decide +kernel
theorem dX8_sum_101 : decode cX8_sum 101 = .ok (.getfield 7, 3) := by decide +kernel
theorem dX8_sum_104 : decode cX8_sum 104 = .ok (.bipush 49, 2) := by decide +kernel
theorem dX8_sum_106 : decode cX8_sum 106 = .ok (.iload_n 1, 1) := by decide +kernel
theorem dX8_sum_107 : decode cX8_sum 107 = .ok (.iadd, 1) := by decide +kernel
theorem dX8_sum_108 : decode cX8_sum 108 = .ok (.iaload, 1) := by decide +kernel
theorem dX8_sum_109 : decode cX8_sum 109 = .ok (.aload_n 0, 1) := by decide +kernel
theorem dX8_sum_110 : decode cX8_sum 110 = .ok (.getfield 7, 3) := by decide +kernel
theorem dX8_sum_113 : decode cX8_sum 113 = .ok (.bipush 49, 2) := by decide +kernel
theorem dX8_sum_115 : decode cX8_sum 115 = .ok (.iload_n 2, 1) := by decide +kernel
theorem dX8_sum_116 : decode cX8_sum 116 = .ok (.iadd, 1) := by decide +kernel
theorem dX8_sum_117 : decode cX8_sum 117 = .ok (.iaload, 1) := by decide +kernel
theorem dX8_sum_118 : decode cX8_sum 118 = .ok (.ixor, 1) := by decide +kernel
theorem dX8_sum_119 : decode cX8_sum 119 = .ok (.invokevirtual 160, 3) := by decide +kernel
theorem dX8_sum_122 : decode cX8_sum 122 = .ok (.ireturn, 1) := by decide +kernel
theorem dX8_decide_0 : decode cX8_decide 0 = .ok (.aload_n 0, 1) := by decide +kernel
theorem dX8_decide_1 : decode cX8_decide 1 = .ok (.iload_n 1, 1) := by decide +kernel
theorem dX8_decide_2 : decode cX8_decide 2 = .ok (.i2l, 1) := by decide +kernel
theorem dX8_decide_3 : decode cX8_decide 3 = .ok (.lconst 0, 1) := by decide +kernel
theorem dX8_decide_4 : decode cX8_decide 4 = .ok (.ldc2_w 169, 3) := by decide +kernel
theorem dX8_decide_7 : decode cX8_decide 7 = .ok (.invokestatic 111, 3) := by decide +kernel
theorem dX8_decide_10 : decode cX8_decide 10 = .ok (.ifCond .ne 7, 3) := by decide +kernel
theorem dX8_decide_13 : decode cX8_decide 13 = .ok (.iconst 1, 1) := by decide +kernel
theorem dX8_decide_14 : decode cX8_decide 14 = .ok (.goto 30, 3) := by decide +kernel
theorem dX8_decide_17 : decode cX8_decide 17 = .ok (.aload_n 0, 1) := by decide +kernel
theorem dX8_decide_18 : decode cX8_decide 18 = .ok (.getfield 38, 3) := by decide +kernel
theorem dX8_decide_21 : decode cX8_decide 21 = .ok (.bipush (-9), 2) := by decide +kernel
theorem dX8_decide_23 : decode cX8_decide 23 = .ok (.if_icmp .ne 16, 3) := by decide +kernel
theorem dX8_decide_26 : decode cX8_decide 26 = .ok (.aload_n 0, 1) := by decide +kernel
theorem dX8_decide_27 : decode cX8_decide 27 = .ok (.getfield 62, 3) := by decide +kernel
theorem dX8_decide_30 : decode cX8_decide 30 = .ok (.iload_n 1, 1) := by decide +kernel
theorem dX8_decide_31 : decode cX8_decide 31 = .ok (.iconst 2, 1) := by decide +kernel
theorem dX8_decide_32 : decode cX8_decide 32 = .ok (.idiv, 1) := by decide +kernel
theorem dX8_decide_33 : decode cX8_decide 33 = .ok (.invokestatic 54, 3) := by decide +kernel
theorem dX8_decide_36 : decode cX8_decide 36 = .ok (.ifCond .eq 7, 3) := by decide +kernel
theorem dX8_decide_39 : decode cX8_decide 39 = .ok (.iconst 2, 1) := by decide +kernel
theorem dX8_decide_40 : decode cX8_decide 40 = .ok (.goto 4, 3) := by decide +kernel
theorem dX8_decide_43 : decode cX8_decide 43 = .ok (.iconst 0, 1) := by decide +kernel
theorem dX8_decide_44 : decode cX8_decide 44 = .ok (.invokevirtual 118, 3) := by decide +kernel
theorem dX8_decide_47 : decode cX8_decide 47 = .ok (.ifCond .eq 5, 3) := by decide +kernel
theorem dX8_decide_50 : decode cX8_decide 50 = .ok (.iconst 0, 1) := by decide +kernel
theorem dX8_decide_51 : decode cX8_decide 51 = .ok (.ireturn, 1) := by decide +kernel
theorem dX8_decide_52 : decode cX8_decide 52 = .ok (.aload_n 0, 1) := by decide +kernel
theorem dX8_decide_53 : decode cX8_decide 53 = .ok (.getfield 7, 3) := by decide +kernel
theorem dX8_decide_56 : decode cX8_decide 56 = .ok (.aload_n 0, 1) := by decide +kernel
theorem dX8_decide_57 : decode cX8_decide 57 = .ok (.getfield 13, 3) := by decide +kernel
theorem dX8_decide_60 : decode cX8_decide 60 = .ok (.invokestatic 102, 3) := by decide +kernel
theorem dX8_decide_63 : decode cX8_decide 63 = .ok (.aload_n 0, 1) := by decide +kernel
theorem dX8_decide_64 : decode cX8_decide 64 = .ok (.getfield 13, 3) := by decide +kernel
theorem dX8_decide_67 : decode cX8_decide 67 = .ok (.bipush 74, 2) := by decide +kernel
theorem dX8_decide_69 : decode cX8_decide 69 = .ok (.aload_n 0, 1) := by decide +kernel
theorem dX8_decide_70 : decode cX8_decide 70 = .ok (.getfield 13, 3) := by decide +kernel
theorem dX8_decide_73 : decode cX8_decide 73 = .ok (.bipush 73, 2) := by decide +kernel
theorem dX8_decide_75 : decode cX8_decide 75 = .ok (.iaload, 1) := by decide +kernel
theorem dX8_decide_76 : decode cX8_decide 76 = .ok (.iadd, 1) := by decide +kernel
theorem dX8_decide_77 : decode cX8_decide 77 = .ok (.iload_n 1, 1) := by decide +kernel
theorem dX8_decide_78 : decode cX8_decide 78 = .ok (.iastore, 1) := by decide +kernel
theorem dX8_decide_79 : decode cX8_decide 79 = .ok (.aload_n 0, 1) := by decide +kernel
theorem dX8_decide_80 : decode cX8_decide 80 = .ok (.getfield 13, 3) := by decide +kernel
theorem dX8_decide_83 : decode cX8_decide 83 = .ok (.bipush 73, 2) := by decide +kernel
theorem dX8_decide_85 : decode cX8_decide 85 = .ok (.dup2, 1) := by decide +kernel
theorem dX8_decide_86 : decode cX8_decide 86 = .ok (.iaload, 1) := by decide +kernel
theorem dX8_decide_87 : decode cX8_decide 87 = .ok (.iconst 1, 1) := by decide +kernel
theorem dX8_decide_88 : decode cX8_decide 88 = .ok (.iadd, 1) := by decide +kernel
theorem dX8_decide_89 : decode cX8_decide 89 = .ok (.iastore, 1) := by decide +kernel
theorem dX8_decide_90 : decode cX8_decide 90 = .ok (.aload_n 0, 1) := by decide +kernel
theorem dX8_decide_91 : decode cX8_decide 91 = .ok (.invokevirtual 154, 3) := by decide +kernel
theorem dX8_decide_94 : decode cX8_decide 94 = .ok (.aload_n 0, 1) := by decide +kernel
theorem dX8_decide_95 : decode cX8_decide 95 = .ok (.getfield 68, 3) := by decide +kernel
theorem dX8_decide_98 : decode cX8_decide 98 = .ok (.ireturn, 1) := by decide +kernel
theorem dX8_backtrack_0 : decode cX8_backtrack 0 = .ok (.aload_n 0, 1) := by decide +kernel
theorem dX8_backtrack_1 : decode cX8_backtrack 1 = .ok (.iload_n 1, 1) := by decide +kernel
theorem dX8_backtrack_2 : decode cX8_backtrack 2 = .ok (.i2l, 1) := by decide +kernel
theorem dX8_backtrack_3 : decode cX8_backtrack 3 = .ok (.lconst 0, 1) := by decide +kernel
theorem dX8_backtrack_4 : decode cX8_backtrack 4 = .ok (.aload_n 0, 1) := by decide +kernel
theorem dX8_backtrack_5 : decode cX8_backtrack 5 = .ok (.getfield 71, 3) := by decide +kernel
theorem dX8_backtrack_8 : decode cX8_backtrack 8 = .ok (.i2l, 1) := by decide +kernel
theorem dX8_backtrack_9 : decode cX8_backtrack 9 = .ok (.invokestatic 111, 3) := by decide +kernel
theorem dX8_backtrack_12 : decode cX8_backtrack 12 = .ok (.ifCond .eq 7, 3) := by decide +kernel
theorem dX8_backtrack_15 : decode cX8_backtrack 15 = .ok (.iconst 0, 1) := by decide +kernel
theorem dX8_backtrack_16 : decode cX8_backtrack 16 = .ok (.goto 4, 3) := by decide +kernel
theorem dX8_backtrack_19 : decode cX8_backtrack 19 = .ok (.iconst 1, 1) := by decide +kernel
theorem dX8_backtrack_20 : decode cX8_backtrack 20 = .ok (.invokevirtual 118, 3) := by decide +kernel
theorem dX8_backtrack_23 : decode cX8_backtrack 23 = .ok (.ifCond .eq 5, 3) := by decide +kernel
theorem dX8_backtrack_26 : decode cX8_backtrack 26 = .ok (.iconst 0, 1) := by decide +kernel
theorem dX8_backtrack_27 : decode cX8_backtrack 27 = .ok (.ireturn, 1) := by decide +kernel
theorem dX8_backtrack_28 : decode cX8_backtrack 28 = .ok (.aload_n 0, 1) := by decide +kernel
theorem dX8_backtrack_29 : decode cX8_backtrack 29 = .ok (.getfield 7, 3) := by decide +kernel
theorem dX8_backtrack_32 : decode cX8_backtrack 32 = .ok (.aload_n 0, 1) := by decide +kernel
theorem dX8_backtrack_33 : decode cX8_backtrack 33 = .ok (.getfield 13, 3) := by decide +kernel
theorem dX8_backtrack_36 : decode cX8_backtrack 36 = .ok (.invokestatic 102, 3) := by decide +kernel
theorem dX8_backtrack_39 : decode cX8_backtrack 39 = .ok (.aload_n 0, 1) := by decide +kernel
theorem dX8_backtrack_40 : decode cX8_backtrack 40 = .ok (.getfield 13, 3) := by decide +kernel
theorem dX8_backtrack_43 : decode cX8_backtrack 43 = .ok (.bipush 73, 2) := by decide +kernel
theorem dX8_backtrack_45 : decode cX8_backtrack 45 = .ok (.iload_n 1, 1) := by decide +kernel
theorem dX8_backtrack_46 : decode cX8_backtrack 46 = .ok (.iastore, 1) := by decide +kernel
theorem dX8_backtrack_47 : decode cX8_backtrack 47 = .ok (.aload_n 0, 1) := by decide +kernel
theorem dX8_backtrack_48 : decode cX8_backtrack 48 = .ok (.invokevirtual 154, 3) := by decide +kernel
theorem dX8_backtrack_51 : decode cX8_backtrack 51 = .ok (.aload_n 0, 1) := by decide +kernel
theorem dX8_backtrack_52 : decode cX8_backtrack 52 = .ok (.getfield 68, 3) := by decide +kernel
theorem dX8_backtrack_55 : decode cX8_backtrack 55 = .ok (.ireturn, 1) := by decide +kernel
theorem dX8_canLearn_0 : decode cX8_canLearn 0 = .ok (.aload_n 0, 1) := by decide +kernel
theorem dX8_canLearn_1 : decode cX8_canLearn 1 = .ok (.getfield 38, 3) := by decide +kernel
theorem dX8_canLearn_4 : decode cX8_canLearn 4 = .ok (.bipush (-9), 2) := by decide +kernel
theorem dX8_canLearn_6 : decode cX8_canLearn 6 = .ok (.if_icmp .eq 14, 3) := by decide +kernel
theorem dX8_canLearn_9 : decode cX8_canLearn 9 = .ok (.aload_n 0, 1) := by decide +kernel
theorem dX8_canLearn_10 : decode cX8_canLearn 10 = .ok (.getfield 71, 3) := by decide +kernel
theorem dX8_canLearn_13 : decode cX8_canLearn 13 = .ok (.ifCond .le 7, 3) := by decide +kernel
theorem dX8_canLearn_16 : decode cX8_canLearn 16 = .ok (.iconst 1, 1) := by decide +kernel
theorem dX8_canLearn_17 : decode cX8_canLearn 17 = .ok (.goto 4, 3) := by decide +kernel
theorem dX8_canLearn_20 : decode cX8_canLearn 20 = .ok (.iconst 0, 1) := by decide +kernel
theorem dX8_canLearn_21 : decode cX8_canLearn 21 = .ok (.ireturn, 1) := by decide +kernel
theorem dX8_atLevel_0 : decode cX8_atLevel 0 = .ok (.iconst 0, 1) := by decide +kernel
theorem dX8_atLevel_1 : decode cX8_atLevel 1 = .ok (.istore_n 2, 1) := by decide +kernel
theorem dX8_atLevel_2 : decode cX8_atLevel 2 = .ok (.iconst 0, 1) := by decide +kernel
theorem dX8_atLevel_3 : decode cX8_atLevel 3 = .ok (.istore_n 3, 1) := by decide +kernel
theorem dX8_atLevel_4 : decode cX8_atLevel 4 = .ok (.iload_n 3, 1) := by decide +kernel
theorem dX8_atLevel_5 : decode cX8_atLevel 5 = .ok (.bipush 8, 2) := by decide +kernel
theorem dX8_atLevel_7 : decode cX8_atLevel 7 = .ok (.if_icmp .ge 38, 3) := by decide +kernel
theorem dX8_atLevel_10 : decode cX8_atLevel 10 = .ok (.iload_n 2, 1) := by decide +kernel
theorem dX8_atLevel_11 : decode cX8_atLevel 11 = .ok (.iload_n 1, 1) := by decide +kernel
theorem dX8_atLevel_12 : decode cX8_atLevel 12 = .ok (.iload_n 3, 1) := by decide +kernel
theorem dX8_atLevel_13 : decode cX8_atLevel 13 = .ok (.invokestatic 54, 3) := by decide +kernel
theorem dX8_atLevel_16 : decode cX8_atLevel 16 = .ok (.ifCond .eq 20, 3) := by decide +kernel
theorem dX8_atLevel_19 : decode cX8_atLevel 19 = .ok (.aload_n 0, 1) := by decide +kernel
theorem dX8_atLevel_20 : decode cX8_atLevel 20 = .ok (.getfield 29, 3) := by decide +kernel
theorem dX8_atLevel_23 : decode cX8_atLevel 23 = .ok (.iload_n 3, 1) := by decide +kernel
theorem dX8_atLevel_24 : decode cX8_atLevel 24 = .ok (.iaload, 1) := by decide +kernel
theorem dX8_atLevel_25 : decode cX8_atLevel 25 = .ok (.aload_n 0, 1) := by decide +kernel
theorem dX8_atLevel_26 : decode cX8_atLevel 26 = .ok (.getfield 71, 3) := by decide +kernel
theorem dX8_atLevel_29 : decode cX8_atLevel 29 = .ok (.if_icmp .ne 7, 3) := by decide +kernel
theorem dX8_atLevel_32 : decode cX8_atLevel 32 = .ok (.iconst 1, 1) := by decide +kernel
theorem dX8_atLevel_33 : decode cX8_atLevel 33 = .ok (.goto 4, 3) := by decide +kernel
theorem dX8_atLevel_36 : decode cX8_atLevel 36 = .ok (.iconst 0, 1) := by decide +kernel
theorem dX8_atLevel_37 : decode cX8_atLevel 37 = .ok (.iadd, 1) := by decide +kernel
theorem dX8_atLevel_38 : decode cX8_atLevel 38 = .ok (.istore_n 2, 1) := by decide +kernel
theorem dX8_atLevel_39 : decode cX8_atLevel 39 = .ok (.iinc 3 1, 3) := by decide +kernel
theorem dX8_atLevel_42 : decode cX8_atLevel 42 = .ok (.goto (-38), 3) := by decide +kernel
theorem dX8_atLevel_45 : decode cX8_atLevel 45 = .ok (.iload_n 2, 1) := by decide +kernel
theorem dX8_atLevel_46 : decode cX8_atLevel 46 = .ok (.ireturn, 1) := by decide +kernel
theorem dX8_latest_0 : decode cX8_latest 0 = .ok (.bipush (-9), 2) := by decide +kernel
theorem dX8_latest_2 : decode cX8_latest 2 = .ok (.istore_n 2, 1) := by decide +kernel
theorem dX8_latest_3 : decode cX8_latest 3 = .ok (.iconst 0, 1) := by decide +kernel
theorem dX8_latest_4 : decode cX8_latest 4 = .ok (.istore_n 3, 1) := by decide +kernel
theorem dX8_latest_5 : decode cX8_latest 5 = .ok (.iload_n 3, 1) := by decide +kernel
theorem dX8_latest_6 : decode cX8_latest 6 = .ok (.bipush 8, 2) := by decide +kernel
theorem dX8_latest_8 : decode cX8_latest 8 = .ok (.if_icmp .ge 44, 3) := by decide +kernel
theorem dX8_latest_11 : decode cX8_latest 11 = .ok (.iload_n 1, 1) := by decide +kernel
theorem dX8_latest_12 : decode cX8_latest 12 = .ok (.iload_n 3, 1) := by decide +kernel
theorem dX8_latest_13 : decode cX8_latest 13 = .ok (.invokestatic 54, 3) := by decide +kernel
theorem dX8_latest_16 : decode cX8_latest 16 = .ok (.ifCond .eq 28, 3) := by decide +kernel
theorem dX8_latest_19 : decode cX8_latest 19 = .ok (.iload_n 2, 1) := by decide +kernel
theorem dX8_latest_20 : decode cX8_latest 20 = .ok (.bipush (-9), 2) := by decide +kernel
theorem dX8_latest_22 : decode cX8_latest 22 = .ok (.if_icmp .eq 18, 3) := by decide +kernel
theorem dX8_latest_25 : decode cX8_latest 25 = .ok (.aload_n 0, 1) := by decide +kernel
theorem dX8_latest_26 : decode cX8_latest 26 = .ok (.getfield 35, 3) := by decide +kernel
theorem dX8_latest_29 : decode cX8_latest 29 = .ok (.iload_n 3, 1) := by decide +kernel
theorem dX8_latest_30 : decode cX8_latest 30 = .ok (.iaload, 1) := by decide +kernel
theorem dX8_latest_31 : decode cX8_latest 31 = .ok (.aload_n 0, 1) := by decide +kernel
theorem dX8_latest_32 : decode cX8_latest 32 = .ok (.getfield 35, 3) := by decide +kernel
theorem dX8_latest_35 : decode cX8_latest 35 = .ok (.iload_n 2, 1) := by decide +kernel
theorem dX8_latest_36 : decode cX8_latest 36 = .ok (.iaload, 1) := by decide +kernel
theorem dX8_latest_37 : decode cX8_latest 37 = .ok (.if_icmp .le 7, 3) := by decide +kernel
theorem dX8_latest_40 : decode cX8_latest 40 = .ok (.iload_n 3, 1) := by decide +kernel
theorem dX8_latest_41 : decode cX8_latest 41 = .ok (.goto 4, 3) := by decide +kernel
theorem dX8_latest_44 : decode cX8_latest 44 = .ok (.iload_n 2, 1) := by decide +kernel
theorem dX8_latest_45 : decode cX8_latest 45 = .ok (.istore_n 2, 1) := by decide +kernel
theorem dX8_latest_46 : decode cX8_latest 46 = .ok (.iinc 3 1, 3) := by decide +kernel
theorem dX8_latest_49 : decode cX8_latest 49 = .ok (.goto (-44), 3) := by decide +kernel
theorem dX8_latest_52 : decode cX8_latest 52 = .ok (.iload_n 2, 1) := by decide +kernel
theorem dX8_latest_53 : decode cX8_latest 53 = .ok (.ireturn, 1) := by decide +kernel
theorem dX8_analyse_0 : decode cX8_analyse 0 = .ok (.aload_n 1, 1) := by decide +kernel
theorem dX8_analyse_1 : decode cX8_analyse 1 = .ok (.aload_n 0, 1) := by decide +kernel
theorem dX8_analyse_2 : decode cX8_analyse 2 = .ok (.getfield 38, 3) := by decide +kernel
theorem dX8_analyse_5 : decode cX8_analyse 5 = .ok (.invokestatic 74, 3) := by decide +kernel
theorem dX8_analyse_8 : decode cX8_analyse 8 = .ok (.istore_n 2, 1) := by decide +kernel
theorem dX8_analyse_9 : decode cX8_analyse 9 = .ok (.aload_n 0, 1) := by decide +kernel
theorem dX8_analyse_10 : decode cX8_analyse 10 = .ok (.iload_n 2, 1) := by decide +kernel
theorem dX8_analyse_11 : decode cX8_analyse 11 = .ok (.invokevirtual 171, 3) := by decide +kernel
theorem dX8_analyse_14 : decode cX8_analyse 14 = .ok (.iconst 1, 1) := by decide +kernel
theorem dX8_analyse_15 : decode cX8_analyse 15 = .ok (.if_icmp .le 31, 3) := by decide +kernel
theorem dX8_analyse_18 : decode cX8_analyse 18 = .ok (.aload_n 0, 1) := by decide +kernel
theorem dX8_analyse_19 : decode cX8_analyse 19 = .ok (.iload_n 2, 1) := by decide +kernel
theorem dX8_analyse_20 : decode cX8_analyse 20 = .ok (.invokevirtual 174, 3) := by decide +kernel
theorem dX8_analyse_23 : decode cX8_analyse 23 = .ok (.istore_n 3, 1) := by decide +kernel
theorem dX8_analyse_24 : decode cX8_analyse 24 = .ok (.iload_n 2, 1) := by decide +kernel
theorem dX8_analyse_25 : decode cX8_analyse 25 = .ok (.aload_n 1, 1) := by decide +kernel
theorem dX8_analyse_26 : decode cX8_analyse 26 = .ok (.aload_n 0, 1) := by decide +kernel
theorem dX8_analyse_27 : decode cX8_analyse 27 = .ok (.getfield 32, 3) := by decide +kernel
theorem dX8_analyse_30 : decode cX8_analyse 30 = .ok (.iload_n 3, 1) := by decide +kernel
theorem dX8_analyse_31 : decode cX8_analyse 31 = .ok (.iaload, 1) := by decide +kernel
theorem dX8_analyse_32 : decode cX8_analyse 32 = .ok (.invokestatic 74, 3) := by decide +kernel
theorem dX8_analyse_35 : decode cX8_analyse 35 = .ok (.ior, 1) := by decide +kernel
theorem dX8_analyse_36 : decode cX8_analyse 36 = .ok (.iconst 1, 1) := by decide +kernel
theorem dX8_analyse_37 : decode cX8_analyse 37 = .ok (.iload_n 3, 1) := by decide +kernel
theorem dX8_analyse_38 : decode cX8_analyse 38 = .ok (.ishl, 1) := by decide +kernel
theorem dX8_analyse_39 : decode cX8_analyse 39 = .ok (.iconst (-1), 1) := by decide +kernel
theorem dX8_analyse_40 : decode cX8_analyse 40 = .ok (.ixor, 1) := by decide +kernel
theorem dX8_analyse_41 : decode cX8_analyse 41 = .ok (.iand, 1) := by decide +kernel
theorem dX8_analyse_42 : decode cX8_analyse 42 = .ok (.istore_n 2, 1) := by decide +kernel
theorem dX8_analyse_43 : decode cX8_analyse 43 = .ok (.goto (-34), 3) := by decide +kernel
theorem dX8_analyse_46 : decode cX8_analyse 46 = .ok (.aload_n 0, 1) := by decide +kernel
theorem dX8_analyse_47 : decode cX8_analyse 47 = .ok (.iload_n 2, 1) := by decide +kernel
theorem dX8_analyse_48 : decode cX8_analyse 48 = .ok (.aload_n 0, 1) := by decide +kernel
theorem dX8_analyse_49 : decode cX8_analyse 49 = .ok (.getfield 65, 3) := by decide +kernel
theorem dX8_analyse_52 : decode cX8_analyse 52 = .ok (.iconst (-1), 1) := by decide +kernel
theorem dX8_analyse_53 : decode cX8_analyse 53 = .ok (.ixor, 1) := by decide +kernel
theorem dX8_analyse_54 : decode cX8_analyse 54 = .ok (.iand, 1) := by decide +kernel
theorem dX8_analyse_55 : decode cX8_analyse 55 = .ok (.putfield 177, 3) := by decide +kernel
theorem dX8_analyse_58 : decode cX8_analyse 58 = .ok (.aload_n 0, 1) := by decide +kernel
theorem dX8_analyse_59 : decode cX8_analyse 59 = .ok (.iload_n 2, 1) := by decide +kernel
theorem dX8_analyse_60 : decode cX8_analyse 60 = .ok (.aload_n 0, 1) := by decide +kernel
theorem dX8_analyse_61 : decode cX8_analyse 61 = .ok (.getfield 65, 3) := by decide +kernel
theorem dX8_analyse_64 : decode cX8_analyse 64 = .ok (.iand, 1) := by decide +kernel
theorem dX8_analyse_65 : decode cX8_analyse 65 = .ok (.putfield 180, 3) := by decide +kernel
theorem dX8_analyse_68 : decode cX8_analyse 68 = .ok (.iconst 0, 1) := by decide +kernel
theorem dX8_analyse_69 : decode cX8_analyse 69 = .ok (.istore_n 3, 1) := by decide +kernel
theorem dX8_analyse_70 : decode cX8_analyse 70 = .ok (.iconst 0, 1) := by decide +kernel
theorem dX8_analyse_71 : decode cX8_analyse 71 = .ok (.istore 4, 2) := by decide +kernel
theorem dX8_analyse_73 : decode cX8_analyse 73 = .ok (.iload 4, 2) := by decide +kernel
theorem dX8_analyse_75 : decode cX8_analyse 75 = .ok (.bipush 8, 2) := by decide +kernel
theorem dX8_analyse_77 : decode cX8_analyse 77 = .ok (.if_icmp .ge 55, 3) := by decide +kernel
theorem dX8_analyse_80 : decode cX8_analyse 80 = .ok (.iload_n 2, 1) := by decide +kernel
theorem dX8_analyse_81 : decode cX8_analyse 81 = .ok (.iload 4, 2) := by decide +kernel
theorem dX8_analyse_83 : decode cX8_analyse 83 = .ok (.invokestatic 54, 3) := by decide +kernel
theorem dX8_analyse_86 : decode cX8_analyse 86 = .ok (.ifCond .eq 38, 3) := by decide +kernel
theorem dX8_analyse_89 : decode cX8_analyse 89 = .ok (.aload_n 0, 1) := by decide +kernel
theorem dX8_analyse_90 : decode cX8_analyse 90 = .ok (.getfield 29, 3) := by decide +kernel
theorem dX8_analyse_93 : decode cX8_analyse 93 = .ok (.iload 4, 2) := by decide +kernel
theorem dX8_analyse_95 : decode cX8_analyse 95 = .ok (.iaload, 1) := by decide +kernel
theorem dX8_analyse_96 : decode cX8_analyse 96 = .ok (.aload_n 0, 1) := by decide +kernel
theorem dX8_analyse_97 : decode cX8_analyse 97 = .ok (.getfield 71, 3) := by decide +kernel
theorem dX8_analyse_100 : decode cX8_analyse 100 = .ok (.if_icmp .ge 24, 3) := by decide +kernel
theorem dX8_analyse_103 : decode cX8_analyse 103 = .ok (.aload_n 0, 1) := by decide +kernel
theorem dX8_analyse_104 : decode cX8_analyse 104 = .ok (.getfield 29, 3) := by decide +kernel
theorem dX8_analyse_107 : decode cX8_analyse 107 = .ok (.iload 4, 2) := by decide +kernel
theorem dX8_analyse_109 : decode cX8_analyse 109 = .ok (.iaload, 1) := by decide +kernel
theorem dX8_analyse_110 : decode cX8_analyse 110 = .ok (.iload_n 3, 1) := by decide +kernel
theorem dX8_analyse_111 : decode cX8_analyse 111 = .ok (.if_icmp .le 13, 3) := by decide +kernel
theorem dX8_analyse_114 : decode cX8_analyse 114 = .ok (.aload_n 0, 1) := by decide +kernel
theorem dX8_analyse_115 : decode cX8_analyse 115 = .ok (.getfield 29, 3) := by decide +kernel
theorem dX8_analyse_118 : decode cX8_analyse 118 = .ok (.iload 4, 2) := by decide +kernel
theorem dX8_analyse_120 : decode cX8_analyse 120 = .ok (.iaload, 1) := by decide +kernel
theorem dX8_analyse_121 : decode cX8_analyse 121 = .ok (.goto 4, 3) := by decide +kernel
theorem dX8_analyse_124 : decode cX8_analyse 124 = .ok (.iload_n 3, 1) := by decide +kernel
theorem dX8_analyse_125 : decode cX8_analyse 125 = .ok (.istore_n 3, 1) := by decide +kernel
theorem dX8_analyse_126 : decode cX8_analyse 126 = .ok (.iinc 4 1, 3) := by decide +kernel
theorem dX8_analyse_129 : decode cX8_analyse 129 = .ok (.goto (-56), 3) := by decide +kernel
theorem dX8_analyse_132 : decode cX8_analyse 132 = .ok (.iload_n 3, 1) := by decide +kernel
theorem dX8_analyse_133 : decode cX8_analyse 133 = .ok (.ireturn, 1) := by decide +kernel
theorem dX8_learn_0 : decode cX8_learn 0 = .ok (.aload_n 0, 1) := by decide +kernel
theorem dX8_learn_1 : decode cX8_learn 1 = .ok (.aload_n 0, 1) := by decide +kernel
theorem dX8_learn_2 : decode cX8_learn 2 = .ok (.invokevirtual 183, 3) := by decide +kernel
theorem dX8_learn_5 : decode cX8_learn 5 = .ok (.ifCond .eq 14, 3) := by decide +kernel
theorem dX8_learn_8 : decode cX8_learn 8 = .ok (.aload_n 0, 1) := by decide +kernel
theorem dX8_learn_9 : decode cX8_learn 9 = .ok (.getfield 7, 3) := by decide +kernel
theorem dX8_learn_12 : decode cX8_learn 12 = .ok (.iconst 0, 1) := by decide +kernel
theorem dX8_learn_13 : decode cX8_learn 13 = .ok (.iaload, 1) := by decide +kernel
theorem dX8_learn_14 : decode cX8_learn 14 = .ok (.bipush 24, 2) := by decide +kernel
theorem dX8_learn_16 : decode cX8_learn 16 = .ok (.if_icmp .ne 7, 3) := by decide +kernel
theorem dX8_learn_19 : decode cX8_learn 19 = .ok (.iconst 1, 1) := by decide +kernel
theorem dX8_learn_20 : decode cX8_learn 20 = .ok (.goto 4, 3) := by decide +kernel
theorem dX8_learn_23 : decode cX8_learn 23 = .ok (.iconst 0, 1) := by decide +kernel
theorem dX8_learn_24 : decode cX8_learn 24 = .ok (.invokevirtual 118, 3) := by decide +kernel
theorem dX8_learn_27 : decode cX8_learn 27 = .ok (.ifCond .eq 5, 3) := by decide +kernel
theorem dX8_learn_30 : decode cX8_learn 30 = .ok (.iconst 0, 1) := by decide +kernel
theorem dX8_learn_31 : decode cX8_learn 31 = .ok (.ireturn, 1) := by decide +kernel
theorem dX8_learn_32 : decode cX8_learn 32 = .ok (.aload_n 0, 1) := by decide +kernel
theorem dX8_learn_33 : decode cX8_learn 33 = .ok (.aload_n 0, 1) := by decide +kernel
theorem dX8_learn_34 : decode cX8_learn 34 = .ok (.getfield 7, 3) := by decide +kernel
theorem dX8_learn_37 : decode cX8_learn 37 = .ok (.invokevirtual 186, 3) := by decide +kernel
theorem dX8_learn_40 : decode cX8_learn 40 = .ok (.istore_n 1, 1) := by decide +kernel
theorem dX8_learn_41 : decode cX8_learn 41 = .ok (.aload_n 0, 1) := by decide +kernel
theorem dX8_learn_42 : decode cX8_learn 42 = .ok (.getfield 7, 3) := by decide +kernel
theorem dX8_learn_45 : decode cX8_learn 45 = .ok (.aload_n 0, 1) := by decide +kernel
theorem dX8_learn_46 : decode cX8_learn 46 = .ok (.getfield 13, 3) := by decide +kernel
theorem dX8_learn_49 : decode cX8_learn 49 = .ok (.invokestatic 102, 3) := by decide +kernel
theorem dX8_learn_52 : decode cX8_learn 52 = .ok (.aload_n 0, 1) := by decide +kernel
theorem dX8_learn_53 : decode cX8_learn 53 = .ok (.getfield 13, 3) := by decide +kernel
theorem dX8_learn_56 : decode cX8_learn 56 = .ok (.iconst 0, 1) := by decide +kernel
theorem dX8_learn_57 : decode cX8_learn 57 = .ok (.aload_n 0, 1) := by decide +kernel
theorem dX8_learn_58 : decode cX8_learn 58 = .ok (.getfield 177, 3) := by decide +kernel
theorem dX8_learn_61 : decode cX8_learn 61 = .ok (.aload_n 0, 1) := by decide +kernel
theorem dX8_learn_62 : decode cX8_learn 62 = .ok (.getfield 180, 3) := by decide +kernel
theorem dX8_learn_65 : decode cX8_learn 65 = .ok (.invokestatic 133, 3) := by decide +kernel
theorem dX8_learn_68 : decode cX8_learn 68 = .ok (.aload_n 0, 1) := by decide +kernel
theorem dX8_learn_69 : decode cX8_learn 69 = .ok (.getfield 13, 3) := by decide +kernel
theorem dX8_learn_72 : decode cX8_learn 72 = .ok (.bipush 73, 2) := by decide +kernel
theorem dX8_learn_74 : decode cX8_learn 74 = .ok (.iload_n 1, 1) := by decide +kernel
theorem dX8_learn_75 : decode cX8_learn 75 = .ok (.iastore, 1) := by decide +kernel
theorem dX8_learn_76 : decode cX8_learn 76 = .ok (.aload_n 0, 1) := by decide +kernel
theorem dX8_learn_77 : decode cX8_learn 77 = .ok (.invokevirtual 154, 3) := by decide +kernel
theorem dX8_learn_80 : decode cX8_learn 80 = .ok (.iload_n 1, 1) := by decide +kernel
theorem dX8_learn_81 : decode cX8_learn 81 = .ok (.ireturn, 1) := by decide +kernel
theorem dX8_undo_0 : decode cX8_undo 0 = .ok (.aload_n 0, 1) := by decide +kernel
theorem dX8_undo_1 : decode cX8_undo 1 = .ok (.aload_n 0, 1) := by decide +kernel
theorem dX8_undo_2 : decode cX8_undo 2 = .ok (.getfield 99, 3) := by decide +kernel
theorem dX8_undo_5 : decode cX8_undo 5 = .ok (.ifCond .ne 7, 3) := by decide +kernel
theorem dX8_undo_8 : decode cX8_undo 8 = .ok (.iconst 1, 1) := by decide +kernel
theorem dX8_undo_9 : decode cX8_undo 9 = .ok (.goto 4, 3) := by decide +kernel
theorem dX8_undo_12 : decode cX8_undo 12 = .ok (.iconst 0, 1) := by decide +kernel
theorem dX8_undo_13 : decode cX8_undo 13 = .ok (.invokevirtual 118, 3) := by decide +kernel
theorem dX8_undo_16 : decode cX8_undo 16 = .ok (.ifCond .eq 5, 3) := by decide +kernel
theorem dX8_undo_19 : decode cX8_undo 19 = .ok (.iconst 0, 1) := by decide +kernel
theorem dX8_undo_20 : decode cX8_undo 20 = .ok (.ireturn, 1) := by decide +kernel
theorem dX8_undo_21 : decode cX8_undo 21 = .ok (.aload_n 0, 1) := by decide +kernel
theorem dX8_undo_22 : decode cX8_undo 22 = .ok (.dup, 1) := by decide +kernel
theorem dX8_undo_23 : decode cX8_undo 23 = .ok (.getfield 99, 3) := by decide +kernel
theorem dX8_undo_26 : decode cX8_undo 26 = .ok (.iconst 1, 1) := by decide +kernel
theorem dX8_undo_27 : decode cX8_undo 27 = .ok (.isub, 1) := by decide +kernel
theorem dX8_undo_28 : decode cX8_undo 28 = .ok (.putfield 99, 3) := by decide +kernel
theorem dX8_undo_31 : decode cX8_undo 31 = .ok (.aload_n 0, 1) := by decide +kernel
theorem dX8_undo_32 : decode cX8_undo 32 = .ok (.aload_n 0, 1) := by decide +kernel
theorem dX8_undo_33 : decode cX8_undo 33 = .ok (.getfield 96, 3) := by decide +kernel
theorem dX8_undo_36 : decode cX8_undo 36 = .ok (.bipush 14, 2) := by decide +kernel
theorem dX8_undo_38 : decode cX8_undo 38 = .ok (.iadd, 1) := by decide +kernel
theorem dX8_undo_39 : decode cX8_undo 39 = .ok (.iconst 1, 1) := by decide +kernel
theorem dX8_undo_40 : decode cX8_undo 40 = .ok (.isub, 1) := by decide +kernel
theorem dX8_undo_41 : decode cX8_undo 41 = .ok (.bipush 14, 2) := by decide +kernel
theorem dX8_undo_43 : decode cX8_undo 43 = .ok (.irem, 1) := by decide +kernel
theorem dX8_undo_44 : decode cX8_undo 44 = .ok (.putfield 96, 3) := by decide +kernel
theorem dX8_undo_47 : decode cX8_undo 47 = .ok (.iconst 0, 1) := by decide +kernel
theorem dX8_undo_48 : decode cX8_undo 48 = .ok (.istore_n 1, 1) := by decide +kernel
theorem dX8_undo_49 : decode cX8_undo 49 = .ok (.iload_n 1, 1) := by decide +kernel
theorem dX8_undo_50 : decode cX8_undo 50 = .ok (.bipush 82, 2) := by decide +kernel
theorem dX8_undo_52 : decode cX8_undo 52 = .ok (.if_icmp .ge 29, 3) := by decide +kernel
theorem dX8_undo_55 : decode cX8_undo 55 = .ok (.aload_n 0, 1) := by decide +kernel
theorem dX8_undo_56 : decode cX8_undo 56 = .ok (.getfield 7, 3) := by decide +kernel
theorem dX8_undo_59 : decode cX8_undo 59 = .ok (.iload_n 1, 1) := by decide +kernel
theorem dX8_undo_60 : decode cX8_undo 60 = .ok (.aload_n 0, 1) := by decide +kernel
theorem dX8_undo_61 : decode cX8_undo 61 = .ok (.getfield 16, 3) := by decide +kernel
theorem dX8_undo_64 : decode cX8_undo 64 = .ok (.bipush 82, 2) := by decide +kernel
theorem dX8_undo_66 : decode cX8_undo 66 = .ok (.aload_n 0, 1) := by decide +kernel
theorem dX8_undo_67 : decode cX8_undo 67 = .ok (.getfield 96, 3) := by decide +kernel
theorem dX8_undo_70 : decode cX8_undo 70 = .ok (.imul, 1) := by decide +kernel
theorem dX8_undo_71 : decode cX8_undo 71 = .ok (.iload_n 1, 1) := by decide +kernel
theorem dX8_undo_72 : decode cX8_undo 72 = .ok (.iadd, 1) := by decide +kernel
theorem dX8_undo_73 : decode cX8_undo 73 = .ok (.iaload, 1) := by decide +kernel
theorem dX8_undo_74 : decode cX8_undo 74 = .ok (.iastore, 1) := by decide +kernel
theorem dX8_undo_75 : decode cX8_undo 75 = .ok (.iinc 1 1, 3) := by decide +kernel
theorem dX8_undo_78 : decode cX8_undo 78 = .ok (.goto (-29), 3) := by decide +kernel
theorem dX8_undo_81 : decode cX8_undo 81 = .ok (.aload_n 0, 1) := by decide +kernel
theorem dX8_undo_82 : decode cX8_undo 82 = .ok (.aload_n 0, 1) := by decide +kernel
theorem dX8_undo_83 : decode cX8_undo 83 = .ok (.getfield 7, 3) := by decide +kernel
theorem dX8_undo_86 : decode cX8_undo 86 = .ok (.invokevirtual 106, 3) := by decide +kernel
theorem dX8_undo_89 : decode cX8_undo 89 = .ok (.aload_n 0, 1) := by decide +kernel
theorem dX8_undo_90 : decode cX8_undo 90 = .ok (.getfield 99, 3) := by decide +kernel
theorem dX8_undo_93 : decode cX8_undo 93 = .ok (.ireturn, 1) := by decide +kernel
theorem dX8_level_0 : decode cX8_level 0 = .ok (.aload_n 0, 1) := by decide +kernel
theorem dX8_level_1 : decode cX8_level 1 = .ok (.iconst 0, 1) := by decide +kernel
theorem dX8_level_2 : decode cX8_level 2 = .ok (.putfield 51, 3) := by decide +kernel
theorem dX8_level_5 : decode cX8_level 5 = .ok (.aload_n 0, 1) := by decide +kernel
theorem dX8_level_6 : decode cX8_level 6 = .ok (.getfield 71, 3) := by decide +kernel
theorem dX8_level_9 : decode cX8_level 9 = .ok (.ireturn, 1) := by decide +kernel
theorem dX8_value_0 : decode cX8_value 0 = .ok (.aload_n 0, 1) := by decide +kernel
theorem dX8_value_1 : decode cX8_value 1 = .ok (.iload_n 1, 1) := by decide +kernel
theorem dX8_value_2 : decode cX8_value 2 = .ok (.i2l, 1) := by decide +kernel
theorem dX8_value_3 : decode cX8_value 3 = .ok (.lconst 0, 1) := by decide +kernel
theorem dX8_value_4 : decode cX8_value 4 = .ok (.ldc2_w 167, 3) := by decide +kernel
theorem dX8_value_7 : decode cX8_value 7 = .ok (.invokestatic 111, 3) := by decide +kernel
theorem dX8_value_10 : decode cX8_value 10 = .ok (.ifCond .eq 7, 3) := by decide +kernel
theorem dX8_value_13 : decode cX8_value 13 = .ok (.iconst 0, 1) := by decide +kernel
theorem dX8_value_14 : decode cX8_value 14 = .ok (.goto 4, 3) := by decide +kernel
theorem dX8_value_17 : decode cX8_value 17 = .ok (.iconst 1, 1) := by decide +kernel
theorem dX8_value_18 : decode cX8_value 18 = .ok (.invokevirtual 118, 3) := by decide +kernel
theorem dX8_value_21 : decode cX8_value 21 = .ok (.ifCond .eq 5, 3) := by decide +kernel
theorem dX8_value_24 : decode cX8_value 24 = .ok (.iconst 0, 1) := by decide +kernel
theorem dX8_value_25 : decode cX8_value 25 = .ok (.ireturn, 1) := by decide +kernel
theorem dX8_value_26 : decode cX8_value 26 = .ok (.aload_n 0, 1) := by decide +kernel
theorem dX8_value_27 : decode cX8_value 27 = .ok (.getfield 62, 3) := by decide +kernel
theorem dX8_value_30 : decode cX8_value 30 = .ok (.iload_n 1, 1) := by decide +kernel
theorem dX8_value_31 : decode cX8_value 31 = .ok (.invokestatic 54, 3) := by decide +kernel
theorem dX8_value_34 : decode cX8_value 34 = .ok (.ifCond .ne 7, 3) := by decide +kernel
theorem dX8_value_37 : decode cX8_value 37 = .ok (.iconst 2, 1) := by decide +kernel
theorem dX8_value_38 : decode cX8_value 38 = .ok (.goto 19, 3) := by decide +kernel
theorem dX8_value_41 : decode cX8_value 41 = .ok (.aload_n 0, 1) := by decide +kernel
theorem dX8_value_42 : decode cX8_value 42 = .ok (.getfield 65, 3) := by decide +kernel
theorem dX8_value_45 : decode cX8_value 45 = .ok (.iload_n 1, 1) := by decide +kernel
theorem dX8_value_46 : decode cX8_value 46 = .ok (.invokestatic 54, 3) := by decide +kernel
theorem dX8_value_49 : decode cX8_value 49 = .ok (.ifCond .eq 7, 3) := by decide +kernel
theorem dX8_value_52 : decode cX8_value 52 = .ok (.iconst 1, 1) := by decide +kernel
theorem dX8_value_53 : decode cX8_value 53 = .ok (.goto 4, 3) := by decide +kernel
theorem dX8_value_56 : decode cX8_value 56 = .ok (.iconst 0, 1) := by decide +kernel
theorem dX8_value_57 : decode cX8_value 57 = .ok (.ireturn, 1) := by decide +kernel
theorem dX8_trailLiteral_0 : decode cX8_trailLiteral 0 = .ok (.aload_n 0, 1) := by decide +kernel
theorem dX8_trailLiteral_1 : decode cX8_trailLiteral 1 = .ok (.iload_n 1, 1) := by decide +kernel
theorem dX8_trailLiteral_2 : decode cX8_trailLiteral 2 = .ok (.i2l, 1) := by decide +kernel
theorem dX8_trailLiteral_3 : decode cX8_trailLiteral 3 = .ok (.lconst 0, 1) := by decide +kernel
theorem dX8_trailLiteral_4 : decode cX8_trailLiteral 4 = .ok (.aload_n 0, 1) := by decide +kernel
theorem dX8_trailLiteral_5 : decode cX8_trailLiteral 5 = .ok (.getfield 68, 3) := by decide +kernel
theorem dX8_trailLiteral_8 : decode cX8_trailLiteral 8 = .ok (.iconst 1, 1) := by decide +kernel
theorem dX8_trailLiteral_9 : decode cX8_trailLiteral 9 = .ok (.isub, 1) := by decide +kernel
theorem dX8_trailLiteral_10 : decode cX8_trailLiteral 10 = .ok (.i2l, 1) := by decide +kernel
theorem dX8_trailLiteral_11 : decode cX8_trailLiteral 11 = .ok (.invokestatic 111, 3) := by decide +kernel
theorem dX8_trailLiteral_14 : decode cX8_trailLiteral 14 = .ok (.ifCond .eq 7, 3) := by decide +kernel
theorem dX8_trailLiteral_17 : decode cX8_trailLiteral 17 = .ok (.iconst 0, 1) := by decide +kernel
theorem dX8_trailLiteral_18 : decode cX8_trailLiteral 18 = .ok (.goto 4, 3) := by decide +kernel
theorem dX8_trailLiteral_21 : decode cX8_trailLiteral 21 = .ok (.iconst 1, 1) := by decide +kernel
theorem dX8_trailLiteral_22 : decode cX8_trailLiteral 22 = .ok (.invokevirtual 118, 3) := by decide +kernel
theorem dX8_trailLiteral_25 : decode cX8_trailLiteral 25 = .ok (.ifCond .eq 5, 3) := by decide +kernel
theorem dX8_trailLiteral_28 : decode cX8_trailLiteral 28 = .ok (.iconst 0, 1) := by decide +kernel
theorem dX8_trailLiteral_29 : decode cX8_trailLiteral 29 = .ok (.ireturn, 1) := by decide +kernel
theorem dX8_trailLiteral_30 : decode cX8_trailLiteral 30 = .ok (.aload_n 0, 1) := by decide +kernel
theorem dX8_trailLiteral_31 : decode cX8_trailLiteral 31 = .ok (.getfield 26, 3) := by decide +kernel
theorem dX8_trailLiteral_34 : decode cX8_trailLiteral 34 = .ok (.iload_n 1, 1) := by decide +kernel
theorem dX8_trailLiteral_35 : decode cX8_trailLiteral 35 = .ok (.iaload, 1) := by decide +kernel
theorem dX8_trailLiteral_36 : decode cX8_trailLiteral 36 = .ok (.ireturn, 1) := by decide +kernel
theorem dX8_reason_0 : decode cX8_reason 0 = .ok (.aload_n 0, 1) := by decide +kernel
theorem dX8_reason_1 : decode cX8_reason 1 = .ok (.iload_n 1, 1) := by decide +kernel
theorem dX8_reason_2 : decode cX8_reason 2 = .ok (.i2l, 1) := by decide +kernel
theorem dX8_reason_3 : decode cX8_reason 3 = .ok (.lconst 0, 1) := by decide +kernel
theorem dX8_reason_4 : decode cX8_reason 4 = .ok (.ldc2_w 167, 3) := by decide +kernel
theorem dX8_reason_7 : decode cX8_reason 7 = .ok (.invokestatic 111, 3) := by decide +kernel
theorem dX8_reason_10 : decode cX8_reason 10 = .ok (.ifCond .eq 7, 3) := by decide +kernel
theorem dX8_reason_13 : decode cX8_reason 13 = .ok (.iconst 0, 1) := by decide +kernel
theorem dX8_reason_14 : decode cX8_reason 14 = .ok (.goto 4, 3) := by decide +kernel
theorem dX8_reason_17 : decode cX8_reason 17 = .ok (.iconst 1, 1) := by decide +kernel
theorem dX8_reason_18 : decode cX8_reason 18 = .ok (.invokevirtual 118, 3) := by decide +kernel
theorem dX8_reason_21 : decode cX8_reason 21 = .ok (.ifCond .eq 5, 3) := by decide +kernel
theorem dX8_reason_24 : decode cX8_reason 24 = .ok (.iconst 0, 1) := by decide +kernel
theorem dX8_reason_25 : decode cX8_reason 25 = .ok (.ireturn, 1) := by decide +kernel
theorem dX8_reason_26 : decode cX8_reason 26 = .ok (.aload_n 0, 1) := by decide +kernel
theorem dX8_reason_27 : decode cX8_reason 27 = .ok (.getfield 32, 3) := by decide +kernel
theorem dX8_reason_30 : decode cX8_reason 30 = .ok (.iload_n 1, 1) := by decide +kernel
theorem dX8_reason_31 : decode cX8_reason 31 = .ok (.iaload, 1) := by decide +kernel
theorem dX8_reason_32 : decode cX8_reason 32 = .ok (.ireturn, 1) := by decide +kernel
theorem dX8_conflict_0 : decode cX8_conflict 0 = .ok (.aload_n 0, 1) := by decide +kernel
theorem dX8_conflict_1 : decode cX8_conflict 1 = .ok (.iconst 0, 1) := by decide +kernel
theorem dX8_conflict_2 : decode cX8_conflict 2 = .ok (.putfield 51, 3) := by decide +kernel
theorem dX8_conflict_5 : decode cX8_conflict 5 = .ok (.aload_n 0, 1) := by decide +kernel
theorem dX8_conflict_6 : decode cX8_conflict 6 = .ok (.getfield 38, 3) := by decide +kernel
theorem dX8_conflict_9 : decode cX8_conflict 9 = .ok (.ireturn, 1) := by decide +kernel
theorem dX8_learnedClause_0 : decode cX8_learnedClause 0 = .ok (.aload_n 0, 1) := by decide +kernel
theorem dX8_learnedClause_1 : decode cX8_learnedClause 1 = .ok (.aload_n 0, 1) := by decide +kernel
theorem dX8_learnedClause_2 : decode cX8_learnedClause 2 = .ok (.invokevirtual 183, 3) := by decide +kernel
theorem dX8_learnedClause_5 : decode cX8_learnedClause 5 = .ok (.ifCond .eq 7, 3) := by decide +kernel
theorem dX8_learnedClause_8 : decode cX8_learnedClause 8 = .ok (.iconst 0, 1) := by decide +kernel
theorem dX8_learnedClause_9 : decode cX8_learnedClause 9 = .ok (.goto 4, 3) := by decide +kernel
theorem dX8_learnedClause_12 : decode cX8_learnedClause 12 = .ok (.iconst 1, 1) := by decide +kernel
theorem dX8_learnedClause_13 : decode cX8_learnedClause 13 = .ok (.invokevirtual 118, 3) := by decide +kernel
theorem dX8_learnedClause_16 : decode cX8_learnedClause 16 = .ok (.ifCond .eq 5, 3) := by decide +kernel
theorem dX8_learnedClause_19 : decode cX8_learnedClause 19 = .ok (.iconst 0, 1) := by decide +kernel
theorem dX8_learnedClause_20 : decode cX8_learnedClause 20 = .ok (.ireturn, 1) := by decide +kernel
theorem dX8_learnedClause_21 : decode cX8_learnedClause 21 = .ok (.aload_n 0, 1) := by decide +kernel
theorem dX8_learnedClause_22 : decode cX8_learnedClause 22 = .ok (.aload_n 0, 1) := by decide +kernel
theorem dX8_learnedClause_23 : decode cX8_learnedClause 23 = .ok (.getfield 7, 3) := by decide +kernel
theorem dX8_learnedClause_26 : decode cX8_learnedClause 26 = .ok (.invokevirtual 186, 3) := by decide +kernel
theorem dX8_learnedClause_29 : decode cX8_learnedClause 29 = .ok (.pop, 1) := by decide +kernel
theorem dX8_learnedClause_30 : decode cX8_learnedClause 30 = .ok (.sipush 256, 3) := by decide +kernel
theorem dX8_learnedClause_33 : decode cX8_learnedClause 33 = .ok (.aload_n 0, 1) := by decide +kernel
theorem dX8_learnedClause_34 : decode cX8_learnedClause 34 = .ok (.getfield 180, 3) := by decide +kernel
theorem dX8_learnedClause_37 : decode cX8_learnedClause 37 = .ok (.imul, 1) := by decide +kernel
theorem dX8_learnedClause_38 : decode cX8_learnedClause 38 = .ok (.aload_n 0, 1) := by decide +kernel
theorem dX8_learnedClause_39 : decode cX8_learnedClause 39 = .ok (.getfield 177, 3) := by decide +kernel
theorem dX8_learnedClause_42 : decode cX8_learnedClause 42 = .ok (.iadd, 1) := by decide +kernel
theorem dX8_learnedClause_43 : decode cX8_learnedClause 43 = .ok (.ireturn, 1) := by decide +kernel
theorem dX8_isModel_0 : decode cX8_isModel 0 = .ok (.iconst 1, 1) := by decide +kernel
theorem dX8_isModel_1 : decode cX8_isModel 1 = .ok (.istore_n 3, 1) := by decide +kernel
theorem dX8_isModel_2 : decode cX8_isModel 2 = .ok (.iconst 0, 1) := by decide +kernel
theorem dX8_isModel_3 : decode cX8_isModel 3 = .ok (.istore 4, 2) := by decide +kernel
theorem dX8_isModel_5 : decode cX8_isModel 5 = .ok (.iload 4, 2) := by decide +kernel
theorem dX8_isModel_7 : decode cX8_isModel 7 = .ok (.aload_n 0, 1) := by decide +kernel
theorem dX8_isModel_8 : decode cX8_isModel 8 = .ok (.getfield 7, 3) := by decide +kernel
theorem dX8_isModel_11 : decode cX8_isModel 11 = .ok (.iconst 0, 1) := by decide +kernel
theorem dX8_isModel_12 : decode cX8_isModel 12 = .ok (.iaload, 1) := by decide +kernel
theorem dX8_isModel_13 : decode cX8_isModel 13 = .ok (.if_icmp .ge 41, 3) := by decide +kernel
theorem dX8_isModel_16 : decode cX8_isModel 16 = .ok (.iload_n 3, 1) := by decide +kernel
theorem dX8_isModel_17 : decode cX8_isModel 17 = .ok (.ifCond .eq 37, 3) := by decide +kernel
theorem dX8_isModel_20 : decode cX8_isModel 20 = .ok (.iload_n 2, 1) := by decide +kernel
theorem dX8_isModel_21 : decode cX8_isModel 21 = .ok (.iload 4, 2) := by decide +kernel
theorem dX8_isModel_23 : decode cX8_isModel 23 = .ok (.invokestatic 54, 3) := by decide +kernel
theorem dX8_isModel_26 : decode cX8_isModel 26 = .ok (.ifCond .eq 16, 3) := by decide +kernel
theorem dX8_isModel_29 : decode cX8_isModel 29 = .ok (.aload_n 0, 1) := by decide +kernel
theorem dX8_isModel_30 : decode cX8_isModel 30 = .ok (.getfield 7, 3) := by decide +kernel
theorem dX8_isModel_33 : decode cX8_isModel 33 = .ok (.iload 4, 2) := by decide +kernel
theorem dX8_isModel_35 : decode cX8_isModel 35 = .ok (.iload_n 1, 1) := by decide +kernel
theorem dX8_isModel_36 : decode cX8_isModel 36 = .ok (.invokestatic 78, 3) := by decide +kernel
theorem dX8_isModel_39 : decode cX8_isModel 39 = .ok (.ifCond .eq 7, 3) := by decide +kernel
theorem dX8_isModel_42 : decode cX8_isModel 42 = .ok (.iconst 1, 1) := by decide +kernel
theorem dX8_isModel_43 : decode cX8_isModel 43 = .ok (.goto 4, 3) := by decide +kernel
theorem dX8_isModel_46 : decode cX8_isModel 46 = .ok (.iconst 0, 1) := by decide +kernel
theorem dX8_isModel_47 : decode cX8_isModel 47 = .ok (.istore_n 3, 1) := by decide +kernel
theorem dX8_isModel_48 : decode cX8_isModel 48 = .ok (.iinc 4 1, 3) := by decide +kernel
theorem dX8_isModel_51 : decode cX8_isModel 51 = .ok (.goto (-46), 3) := by decide +kernel
theorem dX8_isModel_54 : decode cX8_isModel 54 = .ok (.iload_n 3, 1) := by decide +kernel
theorem dX8_isModel_55 : decode cX8_isModel 55 = .ok (.ireturn, 1) := by decide +kernel
theorem dX8_everything_0 : decode cX8_everything 0 = .ok (.iconst 1, 1) := by decide +kernel
theorem dX8_everything_1 : decode cX8_everything 1 = .ok (.aload_n 0, 1) := by decide +kernel
theorem dX8_everything_2 : decode cX8_everything 2 = .ok (.getfield 7, 3) := by decide +kernel
theorem dX8_everything_5 : decode cX8_everything 5 = .ok (.iconst 0, 1) := by decide +kernel
theorem dX8_everything_6 : decode cX8_everything 6 = .ok (.iaload, 1) := by decide +kernel
theorem dX8_everything_7 : decode cX8_everything 7 = .ok (.ishl, 1) := by decide +kernel
theorem dX8_everything_8 : decode cX8_everything 8 = .ok (.iconst 1, 1) := by decide +kernel
theorem dX8_everything_9 : decode cX8_everything 9 = .ok (.isub, 1) := by decide +kernel
theorem dX8_everything_10 : decode cX8_everything 10 = .ok (.ireturn, 1) := by decide +kernel
theorem dX8_modelCount_0 : decode cX8_modelCount 0 = .ok (.aload_n 0, 1) := by decide +kernel
theorem dX8_modelCount_1 : decode cX8_modelCount 1 = .ok (.iconst 0, 1) := by decide +kernel
theorem dX8_modelCount_2 : decode cX8_modelCount 2 = .ok (.putfield 51, 3) := by decide +kernel
theorem dX8_modelCount_5 : decode cX8_modelCount 5 = .ok (.iconst 0, 1) := by decide +kernel
theorem dX8_modelCount_6 : decode cX8_modelCount 6 = .ok (.istore_n 1, 1) := by decide +kernel
theorem dX8_modelCount_7 : decode cX8_modelCount 7 = .ok (.iconst 0, 1) := by decide +kernel
theorem dX8_modelCount_8 : decode cX8_modelCount 8 = .ok (.istore_n 2, 1) := by decide +kernel
theorem dX8_modelCount_9 : decode cX8_modelCount 9 = .ok (.iload_n 2, 1) := by decide +kernel
theorem dX8_modelCount_10 : decode cX8_modelCount 10 = .ok (.sipush 255, 3) := by decide +kernel
theorem dX8_modelCount_13 : decode cX8_modelCount 13 = .ok (.if_icmp .gt 29, 3) := by decide +kernel
theorem dX8_modelCount_16 : decode cX8_modelCount 16 = .ok (.iload_n 1, 1) := by decide +kernel
theorem dX8_modelCount_17 : decode cX8_modelCount 17 = .ok (.aload_n 0, 1) := by decide +kernel
theorem dX8_modelCount_18 : decode cX8_modelCount 18 = .ok (.iload_n 2, 1) := by decide +kernel
theorem dX8_modelCount_19 : decode cX8_modelCount 19 = .ok (.aload_n 0, 1) := by decide +kernel
theorem dX8_modelCount_20 : decode cX8_modelCount 20 = .ok (.invokevirtual 190, 3) := by decide +kernel
theorem dX8_modelCount_23 : decode cX8_modelCount 23 = .ok (.invokevirtual 193, 3) := by decide +kernel
theorem dX8_modelCount_26 : decode cX8_modelCount 26 = .ok (.ifCond .eq 7, 3) := by decide +kernel
theorem dX8_modelCount_29 : decode cX8_modelCount 29 = .ok (.iconst 1, 1) := by decide +kernel
theorem dX8_modelCount_30 : decode cX8_modelCount 30 = .ok (.goto 4, 3) := by decide +kernel
theorem dX8_modelCount_33 : decode cX8_modelCount 33 = .ok (.iconst 0, 1) := by decide +kernel
theorem dX8_modelCount_34 : decode cX8_modelCount 34 = .ok (.iadd, 1) := by decide +kernel
theorem dX8_modelCount_35 : decode cX8_modelCount 35 = .ok (.istore_n 1, 1) := by decide +kernel
theorem dX8_modelCount_36 : decode cX8_modelCount 36 = .ok (.iinc 2 1, 3) := by decide +kernel
theorem dX8_modelCount_39 : decode cX8_modelCount 39 = .ok (.goto (-30), 3) := by decide +kernel
theorem dX8_modelCount_42 : decode cX8_modelCount 42 = .ok (.iload_n 1, 1) := by decide +kernel
theorem dX8_modelCount_43 : decode cX8_modelCount 43 = .ok (.ireturn, 1) := by decide +kernel
theorem dX8_model_0 : decode cX8_model 0 = .ok (.aload_n 0, 1) := by decide +kernel
theorem dX8_model_1 : decode cX8_model 1 = .ok (.iconst 0, 1) := by decide +kernel
theorem dX8_model_2 : decode cX8_model 2 = .ok (.putfield 51, 3) := by decide +kernel
theorem dX8_model_5 : decode cX8_model 5 = .ok (.iconst 0, 1) := by decide +kernel
theorem dX8_model_6 : decode cX8_model 6 = .ok (.istore_n 2, 1) := by decide +kernel
theorem dX8_model_7 : decode cX8_model 7 = .ok (.iconst 0, 1) := by decide +kernel
theorem dX8_model_8 : decode cX8_model 8 = .ok (.istore_n 3, 1) := by decide +kernel
theorem dX8_model_9 : decode cX8_model 9 = .ok (.iload_n 3, 1) := by decide +kernel
theorem dX8_model_10 : decode cX8_model 10 = .ok (.sipush 255, 3) := by decide +kernel
theorem dX8_model_13 : decode cX8_model 13 = .ok (.if_icmp .gt 31, 3) := by decide +kernel
theorem dX8_model_16 : decode cX8_model 16 = .ok (.aload_n 0, 1) := by decide +kernel
theorem dX8_model_17 : decode cX8_model 17 = .ok (.iload_n 3, 1) := by decide +kernel
theorem dX8_model_18 : decode cX8_model 18 = .ok (.aload_n 0, 1) := by decide +kernel
theorem dX8_model_19 : decode cX8_model 19 = .ok (.invokevirtual 190, 3) := by decide +kernel
theorem dX8_model_22 : decode cX8_model 22 = .ok (.invokevirtual 193, 3) := by decide +kernel
theorem dX8_model_25 : decode cX8_model 25 = .ok (.ifCond .eq 13, 3) := by decide +kernel
theorem dX8_model_28 : decode cX8_model 28 = .ok (.iload_n 2, 1) := by decide +kernel
theorem dX8_model_29 : decode cX8_model 29 = .ok (.iload_n 1, 1) := by decide +kernel
theorem dX8_model_30 : decode cX8_model 30 = .ok (.if_icmp .ne 5, 3) := by decide +kernel
theorem dX8_model_33 : decode cX8_model 33 = .ok (.iload_n 3, 1) := by decide +kernel
theorem dX8_model_34 : decode cX8_model 34 = .ok (.ireturn, 1) := by decide +kernel
theorem dX8_model_35 : decode cX8_model 35 = .ok (.iinc 2 1, 3) := by decide +kernel
theorem dX8_model_38 : decode cX8_model 38 = .ok (.iinc 3 1, 3) := by decide +kernel
theorem dX8_model_41 : decode cX8_model 41 = .ok (.goto (-32), 3) := by decide +kernel
theorem dX8_model_44 : decode cX8_model 44 = .ok (.bipush (-9), 2) := by decide +kernel
theorem dX8_model_46 : decode cX8_model 46 = .ok (.ireturn, 1) := by decide +kernel
theorem dX8_implies_0 : decode cX8_implies 0 = .ok (.aload_n 0, 1) := by decide +kernel
theorem dX8_implies_1 : decode cX8_implies 1 = .ok (.getfield 13, 3) := by decide +kernel
theorem dX8_implies_4 : decode cX8_implies 4 = .ok (.iconst 1, 1) := by decide +kernel
theorem dX8_implies_5 : decode cX8_implies 5 = .ok (.iload_n 1, 1) := by decide +kernel
theorem dX8_implies_6 : decode cX8_implies 6 = .ok (.iastore, 1) := by decide +kernel
theorem dX8_implies_7 : decode cX8_implies 7 = .ok (.aload_n 0, 1) := by decide +kernel
theorem dX8_implies_8 : decode cX8_implies 8 = .ok (.getfield 13, 3) := by decide +kernel
theorem dX8_implies_11 : decode cX8_implies 11 = .ok (.bipush 25, 2) := by decide +kernel
theorem dX8_implies_13 : decode cX8_implies 13 = .ok (.iload_n 2, 1) := by decide +kernel
theorem dX8_implies_14 : decode cX8_implies 14 = .ok (.iastore, 1) := by decide +kernel
theorem dX8_implies_15 : decode cX8_implies 15 = .ok (.aload_n 0, 1) := by decide +kernel
theorem dX8_implies_16 : decode cX8_implies 16 = .ok (.getfield 13, 3) := by decide +kernel
theorem dX8_implies_19 : decode cX8_implies 19 = .ok (.bipush 49, 2) := by decide +kernel
theorem dX8_implies_21 : decode cX8_implies 21 = .ok (.iload_n 3, 1) := by decide +kernel
theorem dX8_implies_22 : decode cX8_implies 22 = .ok (.iastore, 1) := by decide +kernel
theorem dX8_implies_23 : decode cX8_implies 23 = .ok (.iconst 1, 1) := by decide +kernel
theorem dX8_implies_24 : decode cX8_implies 24 = .ok (.istore 4, 2) := by decide +kernel
theorem dX8_implies_26 : decode cX8_implies 26 = .ok (.iconst 0, 1) := by decide +kernel
theorem dX8_implies_27 : decode cX8_implies 27 = .ok (.istore 5, 2) := by decide +kernel
theorem dX8_implies_29 : decode cX8_implies 29 = .ok (.iload 5, 2) := by decide +kernel
theorem dX8_implies_31 : decode cX8_implies 31 = .ok (.sipush 255, 3) := by decide +kernel
theorem dX8_implies_34 : decode cX8_implies 34 = .ok (.if_icmp .gt 47, 3) := by decide +kernel
theorem dX8_implies_37 : decode cX8_implies 37 = .ok (.iload 4, 2) := by decide +kernel
theorem dX8_implies_39 : decode cX8_implies 39 = .ok (.ifCond .eq 33, 3) := by decide +kernel
theorem dX8_implies_42 : decode cX8_implies 42 = .ok (.aload_n 0, 1) := by decide +kernel
theorem dX8_implies_43 : decode cX8_implies 43 = .ok (.getfield 13, 3) := by decide +kernel
theorem dX8_implies_46 : decode cX8_implies 46 = .ok (.iconst 0, 1) := by decide +kernel
theorem dX8_implies_47 : decode cX8_implies 47 = .ok (.iload 5, 2) := by decide +kernel
theorem dX8_implies_49 : decode cX8_implies 49 = .ok (.invokestatic 78, 3) := by decide +kernel
theorem dX8_implies_52 : decode cX8_implies 52 = .ok (.ifCond .ne 16, 3) := by decide +kernel
theorem dX8_implies_55 : decode cX8_implies 55 = .ok (.aload_n 0, 1) := by decide +kernel
theorem dX8_implies_56 : decode cX8_implies 56 = .ok (.iload 5, 2) := by decide +kernel
theorem dX8_implies_58 : decode cX8_implies 58 = .ok (.aload_n 0, 1) := by decide +kernel
theorem dX8_implies_59 : decode cX8_implies 59 = .ok (.invokevirtual 190, 3) := by decide +kernel
theorem dX8_implies_62 : decode cX8_implies 62 = .ok (.invokevirtual 193, 3) := by decide +kernel
theorem dX8_implies_65 : decode cX8_implies 65 = .ok (.ifCond .ne 7, 3) := by decide +kernel
theorem dX8_implies_68 : decode cX8_implies 68 = .ok (.iconst 1, 1) := by decide +kernel
theorem dX8_implies_69 : decode cX8_implies 69 = .ok (.goto 4, 3) := by decide +kernel
theorem dX8_implies_72 : decode cX8_implies 72 = .ok (.iconst 0, 1) := by decide +kernel
theorem dX8_implies_73 : decode cX8_implies 73 = .ok (.istore 4, 2) := by decide +kernel
theorem dX8_implies_75 : decode cX8_implies 75 = .ok (.iinc 5 1, 3) := by decide +kernel
theorem dX8_implies_78 : decode cX8_implies 78 = .ok (.goto (-49), 3) := by decide +kernel
theorem dX8_implies_81 : decode cX8_implies 81 = .ok (.iload 4, 2) := by decide +kernel
theorem dX8_implies_83 : decode cX8_implies 83 = .ok (.ireturn, 1) := by decide +kernel
theorem dX8_impliesClause_0 : decode cX8_impliesClause 0 = .ok (.aload_n 0, 1) := by decide +kernel
theorem dX8_impliesClause_1 : decode cX8_impliesClause 1 = .ok (.iload_n 1, 1) := by decide +kernel
theorem dX8_impliesClause_2 : decode cX8_impliesClause 2 = .ok (.iload_n 2, 1) := by decide +kernel
theorem dX8_impliesClause_3 : decode cX8_impliesClause 3 = .ok (.invokestatic 157, 3) := by decide +kernel
theorem dX8_impliesClause_6 : decode cX8_impliesClause 6 = .ok (.ifCond .eq 7, 3) := by decide +kernel
theorem dX8_impliesClause_9 : decode cX8_impliesClause 9 = .ok (.iconst 0, 1) := by decide +kernel
theorem dX8_impliesClause_10 : decode cX8_impliesClause 10 = .ok (.goto 4, 3) := by decide +kernel
theorem dX8_impliesClause_13 : decode cX8_impliesClause 13 = .ok (.iconst 1, 1) := by decide +kernel
theorem dX8_impliesClause_14 : decode cX8_impliesClause 14 = .ok (.invokevirtual 118, 3) := by decide +kernel
theorem dX8_impliesClause_17 : decode cX8_impliesClause 17 = .ok (.ifCond .eq 5, 3) := by decide +kernel
