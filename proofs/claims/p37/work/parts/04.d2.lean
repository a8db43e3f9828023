theorem dX7_requireClause_8 : decode cX7_requireClause 8 = .ok (.invokestatic 308, 3) := by decide +kernel
theorem dX7_requireClause_11 : decode cX7_requireClause 11 = .ok (.ifCond .ne 14, 3) := by decide +kernel
theorem dX7_requireClause_14 : decode cX7_requireClause 14 = .ok (.new 57, 3) := by decide +kernel
theorem dX7_requireClause_17 : decode cX7_requireClause 17 = .ok (.dup, 1) := by decide +kernel
theorem dX7_requireClause_18 : decode cX7_requireClause 18 = .ok (.ldc_w 311, 3) := by decide +kernel
theorem dX7_requireClause_21 : decode cX7_requireClause 21 = .ok (.invokespecial 61, 3) := by decide +kernel
theorem dX7_requireClause_24 : decode cX7_requireClause 24 = .ok (.athrow, 1) := by decide +kernel
theorem dX7_requireClause_25 : decode cX7_requireClause 25 = .ok (.iload_n 0, 1) := by decide +kernel
theorem dX7_requireClause_26 : decode cX7_requireClause 26 = .ok (.iload_n 1, 1) := by decide +kernel
theorem dX7_requireClause_27 : decode cX7_requireClause 27 = .ok (.iand, 1) := by decide +kernel
theorem dX7_requireClause_28 : decode cX7_requireClause 28 = .ok (.ifCond .eq 14, 3) := by decide +kernel
theorem dX7_requireClause_31 : decode cX7_requireClause 31 = .ok (.new 57, 3) := by decide +kernel
theorem dX7_requireClause_34 : decode cX7_requireClause 34 = .ok (.dup, 1) := by decide +kernel
theorem dX7_requireClause_35 : decode cX7_requireClause 35 = .ok (.ldc_w 313, 3) := by decide +kernel
theorem dX7_requireClause_38 : decode cX7_requireClause 38 = .ok (.invokespecial 61, 3) := by decide +kernel
theorem dX7_requireClause_41 : decode cX7_requireClause 41 = .ok (.athrow, 1) := by decide +kernel
theorem dX7_requireClause_42 : decode cX7_requireClause 42 = .ok (.return_, 1) := by decide +kernel
theorem dX7_requireParity_0 : decode cX7_requireParity 0 = .ok (.iload_n 0, 1) := by decide +kernel
theorem dX7_requireParity_1 : decode cX7_requireParity 1 = .ok (.invokestatic 308, 3) := by decide +kernel
theorem dX7_requireParity_4 : decode cX7_requireParity 4 = .ok (.ifCond .ne 14, 3) := by decide +kernel
theorem dX7_requireParity_7 : decode cX7_requireParity 7 = .ok (.new 57, 3) := by decide +kernel
theorem dX7_requireParity_10 : decode cX7_requireParity 10 = .ok (.dup, 1) := by decide +kernel
theorem dX7_requireParity_11 : decode cX7_requireParity 11 = .ok (.ldc_w 311, 3) := by decide +kernel
theorem dX7_requireParity_14 : decode cX7_requireParity 14 = .ok (.invokespecial 61, 3) := by decide +kernel
theorem dX7_requireParity_17 : decode cX7_requireParity 17 = .ok (.athrow, 1) := by decide +kernel
theorem dX7_requireParity_18 : decode cX7_requireParity 18 = .ok (.iload_n 1, 1) := by decide +kernel
theorem dX7_requireParity_19 : decode cX7_requireParity 19 = .ok (.ifCond .lt 8, 3) := by decide +kernel
theorem dX7_requireParity_22 : decode cX7_requireParity 22 = .ok (.iload_n 1, 1) := by decide +kernel
theorem dX7_requireParity_23 : decode cX7_requireParity 23 = .ok (.iconst 1, 1) := by decide +kernel
theorem dX7_requireParity_24 : decode cX7_requireParity 24 = .ok (.if_icmp .le 14, 3) := by decide +kernel
theorem dX7_requireParity_27 : decode cX7_requireParity 27 = .ok (.new 57, 3) := by decide +kernel
theorem dX7_requireParity_30 : decode cX7_requireParity 30 = .ok (.dup, 1) := by decide +kernel
theorem dX7_requireParity_31 : decode cX7_requireParity 31 = .ok (.ldc_w 315, 3) := by decide +kernel
theorem dX7_requireParity_34 : decode cX7_requireParity 34 = .ok (.invokespecial 61, 3) := by decide +kernel
theorem dX7_requireParity_37 : decode cX7_requireParity 37 = .ok (.athrow, 1) := by decide +kernel
theorem dX7_requireParity_38 : decode cX7_requireParity 38 = .ok (.return_, 1) := by decide +kernel
theorem dX7_isSet_0 : decode cX7_isSet 0 = .ok (.iload_n 0, 1) := by decide +kernel
theorem dX7_isSet_1 : decode cX7_isSet 1 = .ok (.ifCond .lt 14, 3) := by decide +kernel
theorem dX7_isSet_4 : decode cX7_isSet 4 = .ok (.iload_n 0, 1) := by decide +kernel
theorem dX7_isSet_5 : decode cX7_isSet 5 = .ok (.sipush 255, 3) := by decide +kernel
theorem dX7_isSet_8 : decode cX7_isSet 8 = .ok (.if_icmp .gt 7, 3) := by decide +kernel
theorem dX7_isSet_11 : decode cX7_isSet 11 = .ok (.iconst 1, 1) := by decide +kernel
theorem dX7_isSet_12 : decode cX7_isSet 12 = .ok (.goto 4, 3) := by decide +kernel
theorem dX7_isSet_15 : decode cX7_isSet 15 = .ok (.iconst 0, 1) := by decide +kernel
theorem dX7_isSet_16 : decode cX7_isSet 16 = .ok (.ireturn, 1) := by decide +kernel
theorem dX7_isVariable_0 : decode cX7_isVariable 0 = .ok (.iload_n 0, 1) := by decide +kernel
theorem dX7_isVariable_1 : decode cX7_isVariable 1 = .ok (.ifCond .lt 13, 3) := by decide +kernel
theorem dX7_isVariable_4 : decode cX7_isVariable 4 = .ok (.iload_n 0, 1) := by decide +kernel
theorem dX7_isVariable_5 : decode cX7_isVariable 5 = .ok (.bipush 8, 2) := by decide +kernel
theorem dX7_isVariable_7 : decode cX7_isVariable 7 = .ok (.if_icmp .ge 7, 3) := by decide +kernel
theorem dX7_isVariable_10 : decode cX7_isVariable 10 = .ok (.iconst 1, 1) := by decide +kernel
theorem dX7_isVariable_11 : decode cX7_isVariable 11 = .ok (.goto 4, 3) := by decide +kernel
theorem dX7_isVariable_14 : decode cX7_isVariable 14 = .ok (.iconst 0, 1) := by decide +kernel
theorem dX7_isVariable_15 : decode cX7_isVariable 15 = .ok (.ireturn, 1) := by decide +kernel
theorem dX7_contains_0 : decode cX7_contains 0 = .ok (.iload_n 0, 1) := by decide +kernel
theorem dX7_contains_1 : decode cX7_contains 1 = .ok (.iload_n 1, 1) := by decide +kernel
theorem dX7_contains_2 : decode cX7_contains 2 = .ok (.ishr, 1) := by decide +kernel
theorem dX7_contains_3 : decode cX7_contains 3 = .ok (.iconst 1, 1) := by decide +kernel
theorem dX7_contains_4 : decode cX7_contains 4 = .ok (.iand, 1) := by decide +kernel
theorem dX7_contains_5 : decode cX7_contains 5 = .ok (.iconst 1, 1) := by decide +kernel
theorem dX7_contains_6 : decode cX7_contains 6 = .ok (.if_icmp .ne 7, 3) := by decide +kernel
theorem dX7_contains_9 : decode cX7_contains 9 = .ok (.iconst 1, 1) := by decide +kernel
theorem dX7_contains_10 : decode cX7_contains 10 = .ok (.goto 4, 3) := by decide +kernel
theorem dX7_contains_13 : decode cX7_contains 13 = .ok (.iconst 0, 1) := by decide +kernel
theorem dX7_contains_14 : decode cX7_contains 14 = .ok (.ireturn, 1) := by decide +kernel
theorem dX7_smallestVariable_0 : decode cX7_smallestVariable 0 = .ok (.iconst 0, 1) := by decide +kernel
theorem dX7_smallestVariable_1 : decode cX7_smallestVariable 1 = .ok (.istore_n 1, 1) := by decide +kernel
theorem dX7_smallestVariable_2 : decode cX7_smallestVariable 2 = .ok (.iload_n 1, 1) := by decide +kernel
theorem dX7_smallestVariable_3 : decode cX7_smallestVariable 3 = .ok (.bipush 8, 2) := by decide +kernel
theorem dX7_smallestVariable_5 : decode cX7_smallestVariable 5 = .ok (.if_icmp .ge 19, 3) := by decide +kernel
theorem dX7_smallestVariable_8 : decode cX7_smallestVariable 8 = .ok (.iload_n 0, 1) := by decide +kernel
theorem dX7_smallestVariable_9 : decode cX7_smallestVariable 9 = .ok (.iload_n 1, 1) := by decide +kernel
theorem dX7_smallestVariable_10 : decode cX7_smallestVariable 10 = .ok (.invokestatic 317, 3) := by decide +kernel
theorem dX7_smallestVariable_13 : decode cX7_smallestVariable 13 = .ok (.ifCond .eq 5, 3) := by decide +kernel
theorem dX7_smallestVariable_16 : decode cX7_smallestVariable 16 = .ok (.iload_n 1, 1) := by decide +kernel
theorem dX7_smallestVariable_17 : decode cX7_smallestVariable 17 = .ok (.ireturn, 1) := by decide +kernel
theorem dX7_smallestVariable_18 : decode cX7_smallestVariable 18 = .ok (.iinc 1 1, 3) := by decide +kernel
theorem dX7_smallestVariable_21 : decode cX7_smallestVariable 21 = .ok (.goto (-19), 3) := by decide +kernel
theorem dX7_smallestVariable_24 : decode cX7_smallestVariable 24 = .ok (.bipush (-9), 2) := by decide +kernel
theorem dX7_smallestVariable_26 : decode cX7_smallestVariable 26 = .ok (.ireturn, 1) := by decide +kernel
theorem dX7_literalOf_0 : decode cX7_literalOf 0 = .ok (.iconst 2, 1) := by decide +kernel
theorem dX7_literalOf_1 : decode cX7_literalOf 1 = .ok (.iload_n 0, 1) := by decide +kernel
theorem dX7_literalOf_2 : decode cX7_literalOf 2 = .ok (.imul, 1) := by decide +kernel
theorem dX7_literalOf_3 : decode cX7_literalOf 3 = .ok (.iload_n 1, 1) := by decide +kernel
theorem dX7_literalOf_4 : decode cX7_literalOf 4 = .ok (.ifCond .eq 7, 3) := by decide +kernel
theorem dX7_literalOf_7 : decode cX7_literalOf 7 = .ok (.iconst 0, 1) := by decide +kernel
theorem dX7_literalOf_8 : decode cX7_literalOf 8 = .ok (.goto 4, 3) := by decide +kernel
theorem dX7_literalOf_11 : decode cX7_literalOf 11 = .ok (.iconst 1, 1) := by decide +kernel
theorem dX7_literalOf_12 : decode cX7_literalOf 12 = .ok (.iadd, 1) := by decide +kernel
theorem dX7_literalOf_13 : decode cX7_literalOf 13 = .ok (.ireturn, 1) := by decide +kernel
theorem dX7_variableOf_0 : decode cX7_variableOf 0 = .ok (.iload_n 0, 1) := by decide +kernel
theorem dX7_variableOf_1 : decode cX7_variableOf 1 = .ok (.iconst 1, 1) := by decide +kernel
theorem dX7_variableOf_2 : decode cX7_variableOf 2 = .ok (.ishr, 1) := by decide +kernel
theorem dX7_variableOf_3 : decode cX7_variableOf 3 = .ok (.ireturn, 1) := by decide +kernel
theorem dX7_clauseCode_0 : decode cX7_clauseCode 0 = .ok (.iload_n 1, 1) := by decide +kernel
theorem dX7_clauseCode_1 : decode cX7_clauseCode 1 = .ok (.bipush 8, 2) := by decide +kernel
theorem dX7_clauseCode_3 : decode cX7_clauseCode 3 = .ok (.ishl, 1) := by decide +kernel
theorem dX7_clauseCode_4 : decode cX7_clauseCode 4 = .ok (.iload_n 0, 1) := by decide +kernel
theorem dX7_clauseCode_5 : decode cX7_clauseCode 5 = .ok (.ior, 1) := by decide +kernel
theorem dX7_clauseCode_6 : decode cX7_clauseCode 6 = .ok (.ireturn, 1) := by decide +kernel
theorem dX7_parityCode_0 : decode cX7_parityCode 0 = .ok (.ldc_w 321, 3) := by decide +kernel
theorem dX7_parityCode_3 : decode cX7_parityCode 3 = .ok (.iload_n 1, 1) := by decide +kernel
theorem dX7_parityCode_4 : decode cX7_parityCode 4 = .ok (.bipush 8, 2) := by decide +kernel
theorem dX7_parityCode_6 : decode cX7_parityCode 6 = .ok (.ishl, 1) := by decide +kernel
theorem dX7_parityCode_7 : decode cX7_parityCode 7 = .ok (.ior, 1) := by decide +kernel
theorem dX7_parityCode_8 : decode cX7_parityCode 8 = .ok (.iload_n 0, 1) := by decide +kernel
theorem dX7_parityCode_9 : decode cX7_parityCode 9 = .ok (.ior, 1) := by decide +kernel
theorem dX7_parityCode_10 : decode cX7_parityCode 10 = .ok (.ireturn, 1) := by decide +kernel
theorem dX7_isParityCode_0 : decode cX7_isParityCode 0 = .ok (.iload_n 0, 1) := by decide +kernel
theorem dX7_isParityCode_1 : decode cX7_isParityCode 1 = .ok (.ldc_w 321, 3) := by decide +kernel
theorem dX7_isParityCode_4 : decode cX7_isParityCode 4 = .ok (.iand, 1) := by decide +kernel
theorem dX7_isParityCode_5 : decode cX7_isParityCode 5 = .ok (.ifCond .eq 7, 3) := by decide +kernel
theorem dX7_isParityCode_8 : decode cX7_isParityCode 8 = .ok (.iconst 1, 1) := by decide +kernel
theorem dX7_isParityCode_9 : decode cX7_isParityCode 9 = .ok (.goto 4, 3) := by decide +kernel
theorem dX7_isParityCode_12 : decode cX7_isParityCode 12 = .ok (.iconst 0, 1) := by decide +kernel
theorem dX7_isParityCode_13 : decode cX7_isParityCode 13 = .ok (.ireturn, 1) := by decide +kernel
theorem dX7_firstPart_0 : decode cX7_firstPart 0 = .ok (.iload_n 0, 1) := by decide +kernel
theorem dX7_firstPart_1 : decode cX7_firstPart 1 = .ok (.sipush 255, 3) := by decide +kernel
theorem dX7_firstPart_4 : decode cX7_firstPart 4 = .ok (.iand, 1) := by decide +kernel
theorem dX7_firstPart_5 : decode cX7_firstPart 5 = .ok (.ireturn, 1) := by decide +kernel
theorem dX7_secondPart_0 : decode cX7_secondPart 0 = .ok (.iload_n 0, 1) := by decide +kernel
theorem dX7_secondPart_1 : decode cX7_secondPart 1 = .ok (.bipush 8, 2) := by decide +kernel
theorem dX7_secondPart_3 : decode cX7_secondPart 3 = .ok (.ishr, 1) := by decide +kernel
theorem dX7_secondPart_4 : decode cX7_secondPart 4 = .ok (.sipush 255, 3) := by decide +kernel
theorem dX7_secondPart_7 : decode cX7_secondPart 7 = .ok (.iand, 1) := by decide +kernel
theorem dX7_secondPart_8 : decode cX7_secondPart 8 = .ok (.ireturn, 1) := by decide +kernel
theorem dX7_variablesOf_0 : decode cX7_variablesOf 0 = .ok (.iload_n 0, 1) := by decide +kernel
theorem dX7_variablesOf_1 : decode cX7_variablesOf 1 = .ok (.ldc_w 321, 3) := by decide +kernel
theorem dX7_variablesOf_4 : decode cX7_variablesOf 4 = .ok (.iand, 1) := by decide +kernel
theorem dX7_variablesOf_5 : decode cX7_variablesOf 5 = .ok (.ifCond .eq 7, 3) := by decide +kernel
theorem dX7_variablesOf_8 : decode cX7_variablesOf 8 = .ok (.iload_n 0, 1) := by decide +kernel
theorem dX7_variablesOf_9 : decode cX7_variablesOf 9 = .ok (.goto 9, 3) := by decide +kernel
theorem dX7_variablesOf_12 : decode cX7_variablesOf 12 = .ok (.iload_n 0, 1) := by decide +kernel
theorem dX7_variablesOf_13 : decode cX7_variablesOf 13 = .ok (.iload_n 0, 1) := by decide +kernel
theorem dX7_variablesOf_14 : decode cX7_variablesOf 14 = .ok (.bipush 8, 2) := by decide +kernel
theorem dX7_variablesOf_16 : decode cX7_variablesOf 16 = .ok (.ishr, 1) := by decide +kernel
theorem dX7_variablesOf_17 : decode cX7_variablesOf 17 = .ok (.ior, 1) := by decide +kernel
theorem dX7_variablesOf_18 : decode cX7_variablesOf 18 = .ok (.istore_n 1, 1) := by decide +kernel
theorem dX7_variablesOf_19 : decode cX7_variablesOf 19 = .ok (.iload_n 1, 1) := by decide +kernel
theorem dX7_variablesOf_20 : decode cX7_variablesOf 20 = .ok (.sipush 255, 3) := by decide +kernel
theorem dX7_variablesOf_23 : decode cX7_variablesOf 23 = .ok (.iand, 1) := by decide +kernel
theorem dX7_variablesOf_24 : decode cX7_variablesOf 24 = .ok (.ireturn, 1) := by decide +kernel
theorem dX7_isViolated_0 : decode cX7_isViolated 0 = .ok (.iload_n 0, 1) := by decide +kernel
theorem dX7_isViolated_1 : decode cX7_isViolated 1 = .ok (.sipush 255, 3) := by decide +kernel
theorem dX7_isViolated_4 : decode cX7_isViolated 4 = .ok (.iand, 1) := by decide +kernel
theorem dX7_isViolated_5 : decode cX7_isViolated 5 = .ok (.istore_n 2, 1) := by decide +kernel
theorem dX7_isViolated_6 : decode cX7_isViolated 6 = .ok (.iload_n 0, 1) := by decide +kernel
theorem dX7_isViolated_7 : decode cX7_isViolated 7 = .ok (.bipush 8, 2) := by decide +kernel
theorem dX7_isViolated_9 : decode cX7_isViolated 9 = .ok (.ishr, 1) := by decide +kernel
theorem dX7_isViolated_10 : decode cX7_isViolated 10 = .ok (.sipush 255, 3) := by decide +kernel
theorem dX7_isViolated_13 : decode cX7_isViolated 13 = .ok (.iand, 1) := by decide +kernel
theorem dX7_isViolated_14 : decode cX7_isViolated 14 = .ok (.istore_n 3, 1) := by decide +kernel
theorem dX7_isViolated_15 : decode cX7_isViolated 15 = .ok (.iload_n 0, 1) := by decide +kernel
theorem dX7_isViolated_16 : decode cX7_isViolated 16 = .ok (.ldc_w 321, 3) := by decide +kernel
theorem dX7_isViolated_19 : decode cX7_isViolated 19 = .ok (.iand, 1) := by decide +kernel
theorem dX7_isViolated_20 : decode cX7_isViolated 20 = .ok (.ifCond .eq 21, 3) := by decide +kernel
theorem dX7_isViolated_23 : decode cX7_isViolated 23 = .ok (.iload_n 2, 1) := by decide +kernel
theorem dX7_isViolated_24 : decode cX7_isViolated 24 = .ok (.iload_n 1, 1) := by decide +kernel
theorem dX7_isViolated_25 : decode cX7_isViolated 25 = .ok (.iand, 1) := by decide +kernel
theorem dX7_isViolated_26 : decode cX7_isViolated 26 = .ok (.invokestatic 322, 3) := by decide +kernel
theorem dX7_isViolated_29 : decode cX7_isViolated 29 = .ok (.iconst 1, 1) := by decide +kernel
theorem dX7_isViolated_30 : decode cX7_isViolated 30 = .ok (.iand, 1) := by decide +kernel
theorem dX7_isViolated_31 : decode cX7_isViolated 31 = .ok (.iload_n 3, 1) := by decide +kernel
theorem dX7_isViolated_32 : decode cX7_isViolated 32 = .ok (.if_icmp .eq 7, 3) := by decide +kernel
theorem dX7_isViolated_35 : decode cX7_isViolated 35 = .ok (.iconst 1, 1) := by decide +kernel
theorem dX7_isViolated_36 : decode cX7_isViolated 36 = .ok (.goto 4, 3) := by decide +kernel
theorem dX7_isViolated_39 : decode cX7_isViolated 39 = .ok (.iconst 0, 1) := by decide +kernel
theorem dX7_isViolated_40 : decode cX7_isViolated 40 = .ok (.ireturn, 1) := by decide +kernel
theorem dX7_isViolated_41 : decode cX7_isViolated 41 = .ok (.iload_n 2, 1) := by decide +kernel
theorem dX7_isViolated_42 : decode cX7_isViolated 42 = .ok (.iload_n 1, 1) := by decide +kernel
theorem dX7_isViolated_43 : decode cX7_isViolated 43 = .ok (.iand, 1) := by decide +kernel
theorem dX7_isViolated_44 : decode cX7_isViolated 44 = .ok (.ifCond .ne 15, 3) := by decide +kernel
theorem dX7_isViolated_47 : decode cX7_isViolated 47 = .ok (.iload_n 3, 1) := by decide +kernel
theorem dX7_isViolated_48 : decode cX7_isViolated 48 = .ok (.iload_n 1, 1) := by decide +kernel
theorem dX7_isViolated_49 : decode cX7_isViolated 49 = .ok (.iconst (-1), 1) := by decide +kernel
theorem dX7_isViolated_50 : decode cX7_isViolated 50 = .ok (.ixor, 1) := by decide +kernel
theorem dX7_isViolated_51 : decode cX7_isViolated 51 = .ok (.iand, 1) := by decide +kernel
theorem dX7_isViolated_52 : decode cX7_isViolated 52 = .ok (.ifCond .ne 7, 3) := by decide +kernel
theorem dX7_isViolated_55 : decode cX7_isViolated 55 = .ok (.iconst 1, 1) := by decide +kernel
theorem dX7_isViolated_56 : decode cX7_isViolated 56 = .ok (.goto 4, 3) := by decide +kernel
theorem dX7_isViolated_59 : decode cX7_isViolated 59 = .ok (.iconst 0, 1) := by decide +kernel
theorem dX7_isViolated_60 : decode cX7_isViolated 60 = .ok (.ireturn, 1) := by decide +kernel
theorem dJ6_bitCount_0f7a4_0 : decode cJ6_bitCount_0f7a4 0 = .ok (.iload_n 0, 1) := by decide +kernel
theorem dJ6_bitCount_0f7a4_1 : decode cJ6_bitCount_0f7a4 1 = .ok (.iload_n 0, 1) := by decide +kernel
theorem dJ6_bitCount_0f7a4_2 : decode cJ6_bitCount_0f7a4 2 = .ok (.iconst 1, 1) := by decide +kernel
theorem dJ6_bitCount_0f7a4_3 : decode cJ6_bitCount_0f7a4 3 = .ok (.iushr, 1) := by decide +kernel
theorem dJ6_bitCount_0f7a4_4 : decode cJ6_bitCount_0f7a4 4 = .ok (.ldc_w 265, 3) := by decide +kernel
theorem dJ6_bitCount_0f7a4_7 : decode cJ6_bitCount_0f7a4 7 = .ok (.iand, 1) := by decide +kernel
theorem dJ6_bitCount_0f7a4_8 : decode cJ6_bitCount_0f7a4 8 = .ok (.isub, 1) := by decide +kernel
theorem dJ6_bitCount_0f7a4_9 : decode cJ6_bitCount_0f7a4 9 = .ok (.istore_n 0, 1) := by decide +kernel
theorem dJ6_bitCount_0f7a4_10 : decode cJ6_bitCount_0f7a4 10 = .ok (.iload_n 0, 1) := by decide +kernel
theorem dJ6_bitCount_0f7a4_11 : decode cJ6_bitCount_0f7a4 11 = .ok (.ldc_w 266, 3) := by decide +kernel
theorem dJ6_bitCount_0f7a4_14 : decode cJ6_bitCount_0f7a4 14 = .ok (.iand, 1) := by decide +kernel
theorem dJ6_bitCount_0f7a4_15 : decode cJ6_bitCount_0f7a4 15 = .ok (.iload_n 0, 1) := by decide +kernel
theorem dJ6_bitCount_0f7a4_16 : decode cJ6_bitCount_0f7a4 16 = .ok (.iconst 2, 1) := by decide +kernel
theorem dJ6_bitCount_0f7a4_17 : decode cJ6_bitCount_0f7a4 17 = .ok (.iushr, 1) := by decide +kernel
theorem dJ6_bitCount_0f7a4_18 : decode cJ6_bitCount_0f7a4 18 = .ok (.ldc_w 266, 3) := by decide +kernel
theorem dJ6_bitCount_0f7a4_21 : decode cJ6_bitCount_0f7a4 21 = .ok (.iand, 1) := by decide +kernel
theorem dJ6_bitCount_0f7a4_22 : decode cJ6_bitCount_0f7a4 22 = .ok (.iadd, 1) := by decide +kernel
theorem dJ6_bitCount_0f7a4_23 : decode cJ6_bitCount_0f7a4 23 = .ok (.istore_n 0, 1) := by decide +kernel
theorem dJ6_bitCount_0f7a4_24 : decode cJ6_bitCount_0f7a4 24 = .ok (.iload_n 0, 1) := by decide +kernel
theorem dJ6_bitCount_0f7a4_25 : decode cJ6_bitCount_0f7a4 25 = .ok (.iload_n 0, 1) := by decide +kernel
theorem dJ6_bitCount_0f7a4_26 : decode cJ6_bitCount_0f7a4 26 = .ok (.iconst 4, 1) := by decide +kernel
theorem dJ6_bitCount_0f7a4_27 : decode cJ6_bitCount_0f7a4 27 = .ok (.iushr, 1) := by decide +kernel
theorem dJ6_bitCount_0f7a4_28 : decode cJ6_bitCount_0f7a4 28 = .ok (.iadd, 1) := by decide +kernel
theorem dJ6_bitCount_0f7a4_29 : decode cJ6_bitCount_0f7a4 29 = .ok (.ldc_w 267, 3) := by decide +kernel
theorem dJ6_bitCount_0f7a4_32 : decode cJ6_bitCount_0f7a4 32 = .ok (.iand, 1) := by decide +kernel
theorem dJ6_bitCount_0f7a4_33 : decode cJ6_bitCount_0f7a4 33 = .ok (.istore_n 0, 1) := by decide +kernel
theorem dJ6_bitCount_0f7a4_34 : decode cJ6_bitCount_0f7a4 34 = .ok (.iload_n 0, 1) := by decide +kernel
theorem dJ6_bitCount_0f7a4_35 : decode cJ6_bitCount_0f7a4 35 = .ok (.iload_n 0, 1) := by decide +kernel
theorem dJ6_bitCount_0f7a4_36 : decode cJ6_bitCount_0f7a4 36 = .ok (.bipush 8, 2) := by decide +kernel
theorem dJ6_bitCount_0f7a4_38 : decode cJ6_bitCount_0f7a4 38 = .ok (.iushr, 1) := by decide +kernel
theorem dJ6_bitCount_0f7a4_39 : decode cJ6_bitCount_0f7a4 39 = .ok (.iadd, 1) := by decide +kernel
theorem dJ6_bitCount_0f7a4_40 : decode cJ6_bitCount_0f7a4 40 = .ok (.istore_n 0, 1) := by decide +kernel
theorem dJ6_bitCount_0f7a4_41 : decode cJ6_bitCount_0f7a4 41 = .ok (.iload_n 0, 1) := by decide +kernel
theorem dJ6_bitCount_0f7a4_42 : decode cJ6_bitCount_0f7a4 42 = .ok (.iload_n 0, 1) := by decide +kernel
theorem dJ6_bitCount_0f7a4_43 : decode cJ6_bitCount_0f7a4 43 = .ok (.bipush 16, 2) := by decide +kernel
theorem dJ6_bitCount_0f7a4_45 : decode cJ6_bitCount_0f7a4 45 = .ok (.iushr, 1) := by decide +kernel
theorem dJ6_bitCount_0f7a4_46 : decode cJ6_bitCount_0f7a4 46 = .ok (.iadd, 1) := by decide +kernel
theorem dJ6_bitCount_0f7a4_47 : decode cJ6_bitCount_0f7a4 47 = .ok (.istore_n 0, 1) := by decide +kernel
theorem dJ6_bitCount_0f7a4_48 : decode cJ6_bitCount_0f7a4 48 = .ok (.iload_n 0, 1) := by decide +kernel
theorem dJ6_bitCount_0f7a4_49 : decode cJ6_bitCount_0f7a4 49 = .ok (.bipush 63, 2) := by decide +kernel
theorem dJ6_bitCount_0f7a4_51 : decode cJ6_bitCount_0f7a4 51 = .ok (.iand, 1) := by decide +kernel
theorem dJ6_bitCount_0f7a4_52 : decode cJ6_bitCount_0f7a4 52 = .ok (.ireturn, 1) := by decide +kernel
theorem dJ9_max_7cf53_0 : decode cJ9_max_7cf53 0 = .ok (.iload_n 0, 1) := by decide +kernel
theorem dJ9_max_7cf53_1 : decode cJ9_max_7cf53 1 = .ok (.iload_n 1, 1) := by decide +kernel
theorem dJ9_max_7cf53_2 : decode cJ9_max_7cf53 2 = .ok (.if_icmp .lt 7, 3) := by decide +kernel
theorem dJ9_max_7cf53_5 : decode cJ9_max_7cf53 5 = .ok (.iload_n 0, 1) := by decide +kernel
theorem dJ9_max_7cf53_6 : decode cJ9_max_7cf53 6 = .ok (.goto 4, 3) := by decide +kernel
theorem dJ9_max_7cf53_9 : decode cJ9_max_7cf53 9 = .ok (.iload_n 1, 1) := by decide +kernel
theorem dJ9_max_7cf53_10 : decode cJ9_max_7cf53 10 = .ok (.ireturn, 1) := by decide +kernel
theorem dJ9_min_7cf53_0 : decode cJ9_min_7cf53 0 = .ok (.iload_n 0, 1) := by decide +kernel
theorem dJ9_min_7cf53_1 : decode cJ9_min_7cf53 1 = .ok (.iload_n 1, 1) := by decide +kernel
theorem dJ9_min_7cf53_2 : decode cJ9_min_7cf53 2 = .ok (.if_icmp .gt 7, 3) := by decide +kernel
theorem dJ9_min_7cf53_5 : decode cJ9_min_7cf53 5 = .ok (.iload_n 0, 1) := by decide +kernel
theorem dJ9_min_7cf53_6 : decode cJ9_min_7cf53 6 = .ok (.goto 4, 3) := by decide +kernel
theorem dJ9_min_7cf53_9 : decode cJ9_min_7cf53 9 = .ok (.iload_n 1, 1) := by decide +kernel
theorem dJ9_min_7cf53_10 : decode cJ9_min_7cf53 10 = .ok (.ireturn, 1) := by decide +kernel
theorem dJ0_charAt_5068e_0 : decode cJ0_charAt_5068e 0 = .ok (.aload_n 0, 1) := by decide +kernel
theorem dJ0_charAt_5068e_1 : decode cJ0_charAt_5068e 1 = .ok (.invokevirtual 492, 3) := by decide +kernel
theorem dJ0_charAt_5068e_4 : decode cJ0_charAt_5068e 4 = .ok (.ifCond .eq 12, 3) := by decide +kernel
theorem dJ0_charAt_5068e_7 : decode cJ0_charAt_5068e 7 = .ok (.aload_n 0, 1) := by decide +kernel
theorem dJ0_charAt_5068e_8 : decode cJ0_charAt_5068e 8 = .ok (.getfield 9, 3) := by decide +kernel
theorem dJ0_charAt_5068e_11 : decode cJ0_charAt_5068e 11 = .ok (.iload_n 1, 1) := by decide +kernel
theorem dJ0_charAt_5068e_12 : decode cJ0_charAt_5068e 12 = .ok (.invokestatic 495, 3) := by decide +kernel
theorem dJ0_charAt_5068e_15 : decode cJ0_charAt_5068e 15 = .ok (.ireturn, 1) := by decide +kernel
theorem dJ0_charAt_5068e_16 : decode cJ0_charAt_5068e 16 = .ok (.aload_n 0, 1) := by decide +kernel
theorem dJ0_charAt_5068e_17 : decode cJ0_charAt_5068e 17 = .ok (.getfield 9, 3) := by decide +kernel
theorem dJ0_charAt_5068e_20 : decode cJ0_charAt_5068e 20 = .ok (.iload_n 1, 1) := by decide +kernel
theorem dJ0_charAt_5068e_21 : decode cJ0_charAt_5068e 21 = .ok (.invokestatic 498, 3) := by decide +kernel
theorem dJ0_charAt_5068e_24 : decode cJ0_charAt_5068e 24 = .ok (.ireturn, 1) := by decide +kernel
theorem dJ0_isLatin1_aae02_0 : decode cJ0_isLatin1_aae02 0 = .ok (.getstatic 38, 3) := by decide +kernel
theorem dJ0_isLatin1_aae02_3 : decode cJ0_isLatin1_aae02 3 = .ok (.ifCond .eq 14, 3) := by decide +kernel
theorem dJ0_isLatin1_aae02_6 : decode cJ0_isLatin1_aae02 6 = .ok (.aload_n 0, 1) := by decide +kernel
theorem dJ0_isLatin1_aae02_7 : decode cJ0_isLatin1_aae02 7 = .ok (.getfield 15, 3) := by decide +kernel
theorem dJ0_isLatin1_aae02_10 : decode cJ0_isLatin1_aae02 10 = .ok (.ifCond .ne 7, 3) := by decide +kernel
theorem dJ0_isLatin1_aae02_13 : decode cJ0_isLatin1_aae02 13 = .ok (.iconst 1, 1) := by decide +kernel
theorem dJ0_isLatin1_aae02_14 : decode cJ0_isLatin1_aae02 14 = .ok (.goto 4, 3) := by decide +kernel
theorem dJ0_isLatin1_aae02_17 : decode cJ0_isLatin1_aae02 17 = .ok (.iconst 0, 1) := by decide +kernel
theorem dJ0_isLatin1_aae02_18 : decode cJ0_isLatin1_aae02 18 = .ok (.ireturn, 1) := by decide +kernel
theorem dJ0_checkIndex_df160_0 : decode cJ0_checkIndex_df160 0 = .ok (.iload_n 0, 1) := by decide +kernel
theorem dJ0_checkIndex_df160_1 : decode cJ0_checkIndex_df160 1 = .ok (.iload_n 1, 1) := by decide +kernel
theorem dJ0_checkIndex_df160_2 : decode cJ0_checkIndex_df160 2 = .ok (.getstatic 1053, 3) := by decide +kernel
theorem dJ0_checkIndex_df160_5 : decode cJ0_checkIndex_df160 5 = .ok (.invokestatic 1059, 3) := by decide +kernel
theorem dJ0_checkIndex_df160_8 : decode cJ0_checkIndex_df160 8 = .ok (.pop, 1) := by decide +kernel
theorem dJ0_checkIndex_df160_9 : decode cJ0_checkIndex_df160 9 = .ok (.return_, 1) := by decide +kernel
theorem dJ1_charAt_3b067_0 : decode cJ1_charAt_3b067 0 = .ok (.iload_n 1, 1) := by decide +kernel
theorem dJ1_charAt_3b067_1 : decode cJ1_charAt_3b067 1 = .ok (.aload_n 0, 1) := by decide +kernel
theorem dJ1_charAt_3b067_2 : decode cJ1_charAt_3b067 2 = .ok (.arraylength, 1) := by decide +kernel
theorem dJ1_charAt_3b067_3 : decode cJ1_charAt_3b067 3 = .ok (.invokestatic 9, 3) := by decide +kernel
theorem dJ1_charAt_3b067_6 : decode cJ1_charAt_3b067 6 = .ok (.aload_n 0, 1) := by decide +kernel
theorem dJ1_charAt_3b067_7 : decode cJ1_charAt_3b067 7 = .ok (.iload_n 1, 1) := by decide +kernel
theorem dJ1_charAt_3b067_8 : decode cJ1_charAt_3b067 8 = .ok (.baload, 1) := by decide +kernel
theorem dJ1_charAt_3b067_9 : decode cJ1_charAt_3b067 9 = .ok (.sipush 255, 3) := by decide +kernel
theorem dJ1_charAt_3b067_12 : decode cJ1_charAt_3b067 12 = .ok (.iand, 1) := by decide +kernel
theorem dJ1_charAt_3b067_13 : decode cJ1_charAt_3b067 13 = .ok (.i2c, 1) := by decide +kernel
theorem dJ1_charAt_3b067_14 : decode cJ1_charAt_3b067 14 = .ok (.ireturn, 1) := by decide +kernel
theorem dJ2_getChar_3b067_0 : decode cJ2_getChar_3b067 0 = .ok (.getstatic 44, 3) := by decide +kernel
theorem dJ2_getChar_3b067_3 : decode cJ2_getChar_3b067 3 = .ok (.ifCond .ne 25, 3) := by decide +kernel
theorem dJ2_getChar_3b067_6 : decode cJ2_getChar_3b067 6 = .ok (.iload_n 1, 1) := by decide +kernel
theorem dJ2_getChar_3b067_7 : decode cJ2_getChar_3b067 7 = .ok (.ifCond .lt 11, 3) := by decide +kernel
theorem dJ2_getChar_3b067_10 : decode cJ2_getChar_3b067 10 = .ok (.iload_n 1, 1) := by decide +kernel
theorem dJ2_getChar_3b067_11 : decode cJ2_getChar_3b067 11 = .ok (.aload_n 0, 1) := by decide +kernel
theorem dJ2_getChar_3b067_12 : decode cJ2_getChar_3b067 12 = .ok (.invokestatic 48, 3) := by decide +kernel
theorem dJ2_getChar_3b067_15 : decode cJ2_getChar_3b067 15 = .ok (.if_icmp .lt 13, 3) := by decide +kernel
theorem dJ2_getChar_3b067_18 : decode cJ2_getChar_3b067 18 = .ok (.new 52, 3) := by decide +kernel
theorem dJ2_getChar_3b067_21 : decode cJ2_getChar_3b067 21 = .ok (.dup, 1) := by decide +kernel
theorem dJ2_getChar_3b067_22 : decode cJ2_getChar_3b067 22 = .ok (.ldc 54, 2) := by decide +kernel
theorem dJ2_getChar_3b067_24 : decode cJ2_getChar_3b067 24 = .ok (.invokespecial 56, 3) := by decide +kernel
theorem dJ2_getChar_3b067_27 : decode cJ2_getChar_3b067 27 = .ok (.athrow, 1) := by decide +kernel
theorem dJ2_getChar_3b067_28 : decode cJ2_getChar_3b067 28 = .ok (.iload_n 1, 1) := by decide +kernel
theorem dJ2_getChar_3b067_29 : decode cJ2_getChar_3b067 29 = .ok (.iconst 1, 1) := by decide +kernel
theorem dJ2_getChar_3b067_30 : decode cJ2_getChar_3b067 30 = .ok (.ishl, 1) := by decide +kernel
theorem dJ2_getChar_3b067_31 : decode cJ2_getChar_3b067 31 = .ok (.istore_n 1, 1) := by decide +kernel
theorem dJ2_getChar_3b067_32 : decode cJ2_getChar_3b067 32 = .ok (.aload_n 0, 1) := by decide +kernel
theorem dJ2_getChar_3b067_33 : decode cJ2_getChar_3b067 33 = .ok (.iload_n 1, 1) := by decide +kernel
theorem dJ2_getChar_3b067_34 : decode cJ2_getChar_3b067 34 = .ok (.iinc 1 1, 3) := by decide +kernel
theorem dJ2_getChar_3b067_37 : decode cJ2_getChar_3b067 37 = .ok (.baload, 1) := by decide +kernel
theorem dJ2_getChar_3b067_38 : decode cJ2_getChar_3b067 38 = .ok (.sipush 255, 3) := by decide +kernel
theorem dJ2_getChar_3b067_41 : decode cJ2_getChar_3b067 41 = .ok (.iand, 1) := by decide +kernel
theorem dJ2_getChar_3b067_42 : decode cJ2_getChar_3b067 42 = .ok (.getstatic 59, 3) := by decide +kernel
theorem dJ2_getChar_3b067_45 : decode cJ2_getChar_3b067 45 = .ok (.ishl, 1) := by decide +kernel
theorem dJ2_getChar_3b067_46 : decode cJ2_getChar_3b067 46 = .ok (.aload_n 0, 1) := by decide +kernel
theorem dJ2_getChar_3b067_47 : decode cJ2_getChar_3b067 47 = .ok (.iload_n 1, 1) := by decide +kernel
theorem dJ2_getChar_3b067_48 : decode cJ2_getChar_3b067 48 = .ok (.baload, 1) := by decide +kernel
theorem dJ2_getChar_3b067_49 : decode cJ2_getChar_3b067 49 = .ok (.sipush 255, 3) := by decide +kernel
theorem dJ2_getChar_3b067_52 : decode cJ2_getChar_3b067 52 = .ok (.iand, 1) := by decide +kernel
theorem dJ2_getChar_3b067_53 : decode cJ2_getChar_3b067 53 = .ok (.getstatic 63, 3) := by decide +kernel
theorem dJ2_getChar_3b067_56 : decode cJ2_getChar_3b067 56 = .ok (.ishl, 1) := by decide +kernel
theorem dJ2_getChar_3b067_57 : decode cJ2_getChar_3b067 57 = .ok (.ior, 1) := by decide +kernel
theorem dJ2_getChar_3b067_58 : decode cJ2_getChar_3b067 58 = .ok (.i2c, 1) := by decide +kernel
theorem dJ2_getChar_3b067_59 : decode cJ2_getChar_3b067 59 = .ok (.ireturn, 1) := by decide +kernel
theorem dJ2_length_9d52b_0 : decode cJ2_length_9d52b 0 = .ok (.aload_n 0, 1) := by decide +kernel
theorem dJ2_length_9d52b_1 : decode cJ2_length_9d52b 1 = .ok (.arraylength, 1) := by decide +kernel
theorem dJ2_length_9d52b_2 : decode cJ2_length_9d52b 2 = .ok (.iconst 1, 1) := by decide +kernel
theorem dJ2_length_9d52b_3 : decode cJ2_length_9d52b 3 = .ok (.ishr, 1) := by decide +kernel
theorem dJ2_length_9d52b_4 : decode cJ2_length_9d52b 4 = .ok (.ireturn, 1) := by decide +kernel
theorem dJ2_charAt_3b067_0 : decode cJ2_charAt_3b067 0 = .ok (.iload_n 1, 1) := by decide +kernel
theorem dJ2_charAt_3b067_1 : decode cJ2_charAt_3b067 1 = .ok (.aload_n 0, 1) := by decide +kernel
theorem dJ2_charAt_3b067_2 : decode cJ2_charAt_3b067 2 = .ok (.invokestatic 67, 3) := by decide +kernel
theorem dJ2_charAt_3b067_5 : decode cJ2_charAt_3b067 5 = .ok (.aload_n 0, 1) := by decide +kernel
theorem dJ2_charAt_3b067_6 : decode cJ2_charAt_3b067 6 = .ok (.iload_n 1, 1) := by decide +kernel
theorem dJ2_charAt_3b067_7 : decode cJ2_charAt_3b067 7 = .ok (.invokestatic 71, 3) := by decide +kernel
theorem dJ2_charAt_3b067_10 : decode cJ2_charAt_3b067 10 = .ok (.ireturn, 1) := by decide +kernel
theorem dJ2_checkIndex_2214a_0 : decode cJ2_checkIndex_2214a 0 = .ok (.iload_n 0, 1) := by decide +kernel
theorem dJ2_checkIndex_2214a_1 : decode cJ2_checkIndex_2214a 1 = .ok (.aload_n 1, 1) := by decide +kernel
theorem dJ2_checkIndex_2214a_2 : decode cJ2_checkIndex_2214a 2 = .ok (.invokestatic 48, 3) := by decide +kernel
theorem dJ2_checkIndex_2214a_5 : decode cJ2_checkIndex_2214a 5 = .ok (.invokestatic 414, 3) := by decide +kernel
theorem dJ2_checkIndex_2214a_8 : decode cJ2_checkIndex_2214a 8 = .ok (.return_, 1) := by decide +kernel
theorem dJ3_checkIndex_8e157_0 : decode cJ3_checkIndex_8e157 0 = .ok (.iload_n 0, 1) := by decide +kernel
theorem dJ3_checkIndex_8e157_1 : decode cJ3_checkIndex_8e157 1 = .ok (.ifCond .lt 8, 3) := by decide +kernel
theorem dJ3_checkIndex_8e157_4 : decode cJ3_checkIndex_8e157 4 = .ok (.iload_n 0, 1) := by decide +kernel
theorem dJ3_checkIndex_8e157_5 : decode cJ3_checkIndex_8e157 5 = .ok (.iload_n 1, 1) := by decide +kernel
theorem dJ3_checkIndex_8e157_6 : decode cJ3_checkIndex_8e157 6 = .ok (.if_icmp .lt 10, 3) := by decide +kernel
theorem dJ3_checkIndex_8e157_9 : decode cJ3_checkIndex_8e157 9 = .ok (.aload_n 2, 1) := by decide +kernel
theorem dJ3_checkIndex_8e157_10 : decode cJ3_checkIndex_8e157 10 = .ok (.iload_n 0, 1) := by decide +kernel
theorem dJ3_checkIndex_8e157_11 : decode cJ3_checkIndex_8e157 11 = .ok (.iload_n 1, 1) := by decide +kernel
theorem dJ3_checkIndex_8e157_12 : decode cJ3_checkIndex_8e157 12 = .ok (.invokestatic 95, 3) := by decide +kernel
theorem dJ3_checkIndex_8e157_15 : decode cJ3_checkIndex_8e157 15 = .ok (.athrow, 1) := by decide +kernel
theorem dJ3_checkIndex_8e157_16 : decode cJ3_checkIndex_8e157 16 = .ok (.iload_n 0, 1) := by decide +kernel
theorem dJ3_checkIndex_8e157_17 : decode cJ3_checkIndex_8e157 17 = .ok (.ireturn, 1) := by decide +kernel
theorem dL_cell_0 : decode cL_cell 0 = .ok (.iload_n 1, 1) := by decide +kernel
theorem dL_cell_1 : decode cL_cell 1 = .ok (.aload_n 0, 1) := by decide +kernel
theorem dL_cell_2 : decode cL_cell 2 = .ok (.arraylength, 1) := by decide +kernel
theorem dL_cell_3 : decode cL_cell 3 = .ok (.if_icmp .ge 9, 3) := by decide +kernel
theorem dL_cell_6 : decode cL_cell 6 = .ok (.aload_n 0, 1) := by decide +kernel
theorem dL_cell_7 : decode cL_cell 7 = .ok (.iload_n 1, 1) := by decide +kernel
theorem dL_cell_8 : decode cL_cell 8 = .ok (.iaload, 1) := by decide +kernel
theorem dL_cell_9 : decode cL_cell 9 = .ok (.goto 11, 3) := by decide +kernel
theorem dL_cell_12 : decode cL_cell 12 = .ok (.ldc 7, 2) := by decide +kernel
theorem dL_cell_14 : decode cL_cell 14 = .ok (.iload_n 1, 1) := by decide +kernel
theorem dL_cell_15 : decode cL_cell 15 = .ok (.imul, 1) := by decide +kernel
theorem dL_cell_16 : decode cL_cell 16 = .ok (.sipush 10091, 3) := by decide +kernel
theorem dL_cell_19 : decode cL_cell 19 = .ok (.iadd, 1) := by decide +kernel
theorem dL_cell_20 : decode cL_cell 20 = .ok (.ldc 8, 2) := by decide +kernel
theorem dL_cell_22 : decode cL_cell 22 = .ok (.iand, 1) := by decide +kernel
theorem dL_cell_23 : decode cL_cell 23 = .ok (.ireturn, 1) := by decide +kernel
theorem dL_append_0 : decode cL_append 0 = .ok (.aload_n 0, 1) := by decide +kernel
theorem dL_append_1 : decode cL_append 1 = .ok (.iload_n 1, 1) := by decide +kernel
theorem dL_append_2 : decode cL_append 2 = .ok (.invokevirtual 9, 3) := by decide +kernel
theorem dL_append_5 : decode cL_append 5 = .ok (.ireturn, 1) := by decide +kernel
theorem dL_append_6 : decode cL_append 6 = .ok (.astore_n 2, 1) := by decide +kernel
theorem dL_append_7 : decode cL_append 7 = .ok (.bipush (-102), 2) := by decide +kernel
theorem dL_append_9 : decode cL_append 9 = .ok (.ireturn, 1) := by decide +kernel
theorem dL_append_10 : decode cL_append 10 = .ok (.astore_n 2, 1) := by decide +kernel
theorem dL_append_11 : decode cL_append 11 = .ok (.bipush (-103), 2) := by decide +kernel
theorem dL_append_13 : decode cL_append 13 = .ok (.ireturn, 1) := by decide +kernel
theorem dL_loadText_0 : decode cL_loadText 0 = .ok (.aload_n 0, 1) := by decide +kernel
theorem dL_loadText_1 : decode cL_loadText 1 = .ok (.invokevirtual 19, 3) := by decide +kernel
theorem dL_loadText_4 : decode cL_loadText 4 = .ok (.ireturn, 1) := by decide +kernel
theorem dL_loadText_5 : decode cL_loadText 5 = .ok (.astore_n 1, 1) := by decide +kernel
theorem dL_loadText_6 : decode cL_loadText 6 = .ok (.bipush (-103), 2) := by decide +kernel
theorem dL_loadText_8 : decode cL_loadText 8 = .ok (.ireturn, 1) := by decide +kernel
theorem dL_parity_0 : decode cL_parity 0 = .ok (.aload_n 0, 1) := by decide +kernel
theorem dL_parity_1 : decode cL_parity 1 = .ok (.iload_n 1, 1) := by decide +kernel
theorem dL_parity_2 : decode cL_parity 2 = .ok (.invokevirtual 23, 3) := by decide +kernel
theorem dL_parity_5 : decode cL_parity 5 = .ok (.ifCond .eq 7, 3) := by decide +kernel
theorem dL_parity_8 : decode cL_parity 8 = .ok (.iconst 1, 1) := by decide +kernel
theorem dL_parity_9 : decode cL_parity 9 = .ok (.goto 4, 3) := by decide +kernel
theorem dL_parity_12 : decode cL_parity 12 = .ok (.iconst 0, 1) := by decide +kernel
theorem dL_parity_13 : decode cL_parity 13 = .ok (.ireturn, 1) := by decide +kernel
theorem dL_parity_14 : decode cL_parity 14 = .ok (.astore_n 2, 1) := by decide +kernel
theorem dL_parity_15 : decode cL_parity 15 = .ok (.bipush (-101), 2) := by decide +kernel
theorem dL_parity_17 : decode cL_parity 17 = .ok (.ireturn, 1) := by decide +kernel
theorem dL_first_0 : decode cL_first 0 = .ok (.aload_n 0, 1) := by decide +kernel
theorem dL_first_1 : decode cL_first 1 = .ok (.iload_n 1, 1) := by decide +kernel
theorem dL_first_2 : decode cL_first 2 = .ok (.invokevirtual 29, 3) := by decide +kernel
theorem dL_first_5 : decode cL_first 5 = .ok (.ireturn, 1) := by decide +kernel
theorem dL_first_6 : decode cL_first 6 = .ok (.astore_n 2, 1) := by decide +kernel
theorem dL_first_7 : decode cL_first 7 = .ok (.bipush (-101), 2) := by decide +kernel
theorem dL_first_9 : decode cL_first 9 = .ok (.ireturn, 1) := by decide +kernel
theorem dL_second_0 : decode cL_second 0 = .ok (.aload_n 0, 1) := by decide +kernel
theorem dL_second_1 : decode cL_second 1 = .ok (.iload_n 1, 1) := by decide +kernel
theorem dL_second_2 : decode cL_second 2 = .ok (.invokevirtual 32, 3) := by decide +kernel
theorem dL_second_5 : decode cL_second 5 = .ok (.ireturn, 1) := by decide +kernel
theorem dL_second_6 : decode cL_second 6 = .ok (.astore_n 2, 1) := by decide +kernel
theorem dL_second_7 : decode cL_second 7 = .ok (.bipush (-101), 2) := by decide +kernel
theorem dL_second_9 : decode cL_second 9 = .ok (.ireturn, 1) := by decide +kernel
theorem dL_clause_0 : decode cL_clause 0 = .ok (.aload_n 0, 1) := by decide +kernel
theorem dL_clause_1 : decode cL_clause 1 = .ok (.iload_n 1, 1) := by decide +kernel
theorem dL_clause_2 : decode cL_clause 2 = .ok (.iload_n 2, 1) := by decide +kernel
theorem dL_clause_3 : decode cL_clause 3 = .ok (.invokevirtual 35, 3) := by decide +kernel
theorem dL_clause_6 : decode cL_clause 6 = .ok (.ireturn, 1) := by decide +kernel
theorem dL_clause_7 : decode cL_clause 7 = .ok (.astore_n 3, 1) := by decide +kernel
theorem dL_clause_8 : decode cL_clause 8 = .ok (.bipush (-102), 2) := by decide +kernel
theorem dL_clause_10 : decode cL_clause 10 = .ok (.ireturn, 1) := by decide +kernel
theorem dL_clause_11 : decode cL_clause 11 = .ok (.astore_n 3, 1) := by decide +kernel
theorem dL_clause_12 : decode cL_clause 12 = .ok (.bipush (-103), 2) := by decide +kernel
theorem dL_clause_14 : decode cL_clause 14 = .ok (.ireturn, 1) := by decide +kernel
theorem dL_sumOfBits_0 : decode cL_sumOfBits 0 = .ok (.aload_n 0, 1) := by decide +kernel
theorem dL_sumOfBits_1 : decode cL_sumOfBits 1 = .ok (.iload_n 1, 1) := by decide +kernel
theorem dL_sumOfBits_2 : decode cL_sumOfBits 2 = .ok (.iload_n 2, 1) := by decide +kernel
theorem dL_sumOfBits_3 : decode cL_sumOfBits 3 = .ok (.invokevirtual 39, 3) := by decide +kernel
theorem dL_sumOfBits_6 : decode cL_sumOfBits 6 = .ok (.ireturn, 1) := by decide +kernel
theorem dL_sumOfBits_7 : decode cL_sumOfBits 7 = .ok (.astore_n 3, 1) := by decide +kernel
theorem dL_sumOfBits_8 : decode cL_sumOfBits 8 = .ok (.bipush (-102), 2) := by decide +kernel
theorem dL_sumOfBits_10 : decode cL_sumOfBits 10 = .ok (.ireturn, 1) := by decide +kernel
theorem dL_sumOfBits_11 : decode cL_sumOfBits 11 = .ok (.astore_n 3, 1) := by decide +kernel
theorem dL_sumOfBits_12 : decode cL_sumOfBits 12 = .ok (.bipush (-103), 2) := by decide +kernel
theorem dL_sumOfBits_14 : decode cL_sumOfBits 14 = .ok (.ireturn, 1) := by decide +kernel
theorem dL_remove_0 : decode cL_remove 0 = .ok (.aload_n 0, 1) := by decide +kernel
theorem dL_remove_1 : decode cL_remove 1 = .ok (.iload_n 1, 1) := by decide +kernel
theorem dL_remove_2 : decode cL_remove 2 = .ok (.invokevirtual 42, 3) := by decide +kernel
theorem dL_remove_5 : decode cL_remove 5 = .ok (.ireturn, 1) := by decide +kernel
theorem dL_remove_6 : decode cL_remove 6 = .ok (.astore_n 2, 1) := by decide +kernel
theorem dL_remove_7 : decode cL_remove 7 = .ok (.bipush (-101), 2) := by decide +kernel
theorem dL_remove_9 : decode cL_remove 9 = .ok (.ireturn, 1) := by decide +kernel
theorem dL_resolve_0 : decode cL_resolve 0 = .ok (.aload_n 0, 1) := by decide +kernel
theorem dL_resolve_1 : decode cL_resolve 1 = .ok (.iload_n 1, 1) := by decide +kernel
theorem dL_resolve_2 : decode cL_resolve 2 = .ok (.iload_n 2, 1) := by decide +kernel
theorem dL_resolve_3 : decode cL_resolve 3 = .ok (.iload_n 3, 1) := by decide +kernel
theorem dL_resolve_4 : decode cL_resolve 4 = .ok (.invokevirtual 45, 3) := by decide +kernel
theorem dL_resolve_7 : decode cL_resolve 7 = .ok (.ireturn, 1) := by decide +kernel
theorem dL_resolve_8 : decode cL_resolve 8 = .ok (.astore 4, 2) := by decide +kernel
theorem dL_resolve_10 : decode cL_resolve 10 = .ok (.bipush (-101), 2) := by decide +kernel
theorem dL_resolve_12 : decode cL_resolve 12 = .ok (.ireturn, 1) := by decide +kernel
theorem dL_resolve_13 : decode cL_resolve 13 = .ok (.astore 4, 2) := by decide +kernel
theorem dL_resolve_15 : decode cL_resolve 15 = .ok (.bipush (-103), 2) := by decide +kernel
theorem dL_resolve_17 : decode cL_resolve 17 = .ok (.ireturn, 1) := by decide +kernel
theorem dL_sum_0 : decode cL_sum 0 = .ok (.aload_n 0, 1) := by decide +kernel
theorem dL_sum_1 : decode cL_sum 1 = .ok (.iload_n 1, 1) := by decide +kernel
theorem dL_sum_2 : decode cL_sum 2 = .ok (.iload_n 2, 1) := by decide +kernel
theorem dL_sum_3 : decode cL_sum 3 = .ok (.invokevirtual 49, 3) := by decide +kernel
theorem dL_sum_6 : decode cL_sum 6 = .ok (.ireturn, 1) := by decide +kernel
theorem dL_sum_7 : decode cL_sum 7 = .ok (.astore_n 3, 1) := by decide +kernel
theorem dL_sum_8 : decode cL_sum 8 = .ok (.bipush (-101), 2) := by decide +kernel
theorem dL_sum_10 : decode cL_sum 10 = .ok (.ireturn, 1) := by decide +kernel
theorem dL_sum_11 : decode cL_sum 11 = .ok (.astore_n 3, 1) := by decide +kernel
theorem dL_sum_12 : decode cL_sum 12 = .ok (.bipush (-103), 2) := by decide +kernel
theorem dL_sum_14 : decode cL_sum 14 = .ok (.ireturn, 1) := by decide +kernel
theorem dL_decide_0 : decode cL_decide 0 = .ok (.aload_n 0, 1) := by decide +kernel
theorem dL_decide_1 : decode cL_decide 1 = .ok (.iload_n 1, 1) := by decide +kernel
theorem dL_decide_2 : decode cL_decide 2 = .ok (.invokevirtual 52, 3) := by decide +kernel
theorem dL_decide_5 : decode cL_decide 5 = .ok (.ireturn, 1) := by decide +kernel
theorem dL_decide_6 : decode cL_decide 6 = .ok (.astore_n 2, 1) := by decide +kernel
theorem dL_decide_7 : decode cL_decide 7 = .ok (.bipush (-101), 2) := by decide +kernel
theorem dL_decide_9 : decode cL_decide 9 = .ok (.ireturn, 1) := by decide +kernel
theorem dL_decide_10 : decode cL_decide 10 = .ok (.astore_n 2, 1) := by decide +kernel
theorem dL_decide_11 : decode cL_decide 11 = .ok (.bipush (-103), 2) := by decide +kernel
theorem dL_decide_13 : decode cL_decide 13 = .ok (.ireturn, 1) := by decide +kernel
theorem dL_backtrack_0 : decode cL_backtrack 0 = .ok (.aload_n 0, 1) := by decide +kernel
theorem dL_backtrack_1 : decode cL_backtrack 1 = .ok (.iload_n 1, 1) := by decide +kernel
theorem dL_backtrack_2 : decode cL_backtrack 2 = .ok (.invokevirtual 55, 3) := by decide +kernel
theorem dL_backtrack_5 : decode cL_backtrack 5 = .ok (.ireturn, 1) := by decide +kernel
theorem dL_backtrack_6 : decode cL_backtrack 6 = .ok (.astore_n 2, 1) := by decide +kernel
theorem dL_backtrack_7 : decode cL_backtrack 7 = .ok (.bipush (-102), 2) := by decide +kernel
theorem dL_backtrack_9 : decode cL_backtrack 9 = .ok (.ireturn, 1) := by decide +kernel
theorem dL_learn_0 : decode cL_learn 0 = .ok (.aload_n 0, 1) := by decide +kernel
theorem dL_learn_1 : decode cL_learn 1 = .ok (.invokevirtual 58, 3) := by decide +kernel
theorem dL_learn_4 : decode cL_learn 4 = .ok (.ireturn, 1) := by decide +kernel
theorem dL_learn_5 : decode cL_learn 5 = .ok (.astore_n 1, 1) := by decide +kernel
theorem dL_learn_6 : decode cL_learn 6 = .ok (.bipush (-103), 2) := by decide +kernel
theorem dL_learn_8 : decode cL_learn 8 = .ok (.ireturn, 1) := by decide +kernel
theorem dL_undo_0 : decode cL_undo 0 = .ok (.aload_n 0, 1) := by decide +kernel
theorem dL_undo_1 : decode cL_undo 1 = .ok (.invokevirtual 61, 3) := by decide +kernel
theorem dL_undo_4 : decode cL_undo 4 = .ok (.ireturn, 1) := by decide +kernel
theorem dL_undo_5 : decode cL_undo 5 = .ok (.astore_n 1, 1) := by decide +kernel
theorem dL_undo_6 : decode cL_undo 6 = .ok (.bipush (-103), 2) := by decide +kernel
theorem dL_undo_8 : decode cL_undo 8 = .ok (.ireturn, 1) := by decide +kernel
theorem dL_value_0 : decode cL_value 0 = .ok (.aload_n 0, 1) := by decide +kernel
theorem dL_value_1 : decode cL_value 1 = .ok (.iload_n 1, 1) := by decide +kernel
theorem dL_value_2 : decode cL_value 2 = .ok (.invokevirtual 64, 3) := by decide +kernel
theorem dL_value_5 : decode cL_value 5 = .ok (.ireturn, 1) := by decide +kernel
theorem dL_value_6 : decode cL_value 6 = .ok (.astore_n 2, 1) := by decide +kernel
theorem dL_value_7 : decode cL_value 7 = .ok (.bipush (-101), 2) := by decide +kernel
theorem dL_value_9 : decode cL_value 9 = .ok (.ireturn, 1) := by decide +kernel
theorem dL_trail_0 : decode cL_trail 0 = .ok (.aload_n 0, 1) := by decide +kernel
theorem dL_trail_1 : decode cL_trail 1 = .ok (.iload_n 1, 1) := by decide +kernel
theorem dL_trail_2 : decode cL_trail 2 = .ok (.invokevirtual 67, 3) := by decide +kernel
theorem dL_trail_5 : decode cL_trail 5 = .ok (.ireturn, 1) := by decide +kernel
theorem dL_trail_6 : decode cL_trail 6 = .ok (.astore_n 2, 1) := by decide +kernel
theorem dL_trail_7 : decode cL_trail 7 = .ok (.bipush (-101), 2) := by decide +kernel
theorem dL_trail_9 : decode cL_trail 9 = .ok (.ireturn, 1) := by decide +kernel
theorem dL_reason_0 : decode cL_reason 0 = .ok (.aload_n 0, 1) := by decide +kernel
theorem dL_reason_1 : decode cL_reason 1 = .ok (.iload_n 1, 1) := by decide +kernel
theorem dL_reason_2 : decode cL_reason 2 = .ok (.invokevirtual 70, 3) := by decide +kernel
theorem dL_reason_5 : decode cL_reason 5 = .ok (.ireturn, 1) := by decide +kernel
theorem dL_reason_6 : decode cL_reason 6 = .ok (.astore_n 2, 1) := by decide +kernel
theorem dL_reason_7 : decode cL_reason 7 = .ok (.bipush (-101), 2) := by decide +kernel
theorem dL_reason_9 : decode cL_reason 9 = .ok (.ireturn, 1) := by decide +kernel
theorem dL_learned_0 : decode cL_learned 0 = .ok (.aload_n 0, 1) := by decide +kernel
theorem dL_learned_1 : decode cL_learned 1 = .ok (.invokevirtual 73, 3) := by decide +kernel
theorem dL_learned_4 : decode cL_learned 4 = .ok (.ireturn, 1) := by decide +kernel
theorem dL_learned_5 : decode cL_learned 5 = .ok (.astore_n 1, 1) := by decide +kernel
theorem dL_learned_6 : decode cL_learned 6 = .ok (.bipush (-103), 2) := by decide +kernel
theorem dL_learned_8 : decode cL_learned 8 = .ok (.ireturn, 1) := by decide +kernel
theorem dL_clauseHolds_0 : decode cL_clauseHolds 0 = .ok (.aload_n 0, 1) := by decide +kernel
theorem dL_clauseHolds_1 : decode cL_clauseHolds 1 = .ok (.iload_n 1, 1) := by decide +kernel
theorem dL_clauseHolds_2 : decode cL_clauseHolds 2 = .ok (.iload_n 2, 1) := by decide +kernel
theorem dL_clauseHolds_3 : decode cL_clauseHolds 3 = .ok (.invokevirtual 76, 3) := by decide +kernel
theorem dL_clauseHolds_6 : decode cL_clauseHolds 6 = .ok (.ifCond .eq 7, 3) := by decide +kernel
theorem dL_clauseHolds_9 : decode cL_clauseHolds 9 = .ok (.iconst 1, 1) := by decide +kernel
theorem dL_clauseHolds_10 : decode cL_clauseHolds 10 = .ok (.goto 4, 3) := by decide +kernel
theorem dL_clauseHolds_13 : decode cL_clauseHolds 13 = .ok (.iconst 0, 1) := by decide +kernel
theorem dL_clauseHolds_14 : decode cL_clauseHolds 14 = .ok (.ireturn, 1) := by decide +kernel
theorem dL_clauseHolds_15 : decode cL_clauseHolds 15 = .ok (.astore_n 3, 1) := by decide +kernel
theorem dL_clauseHolds_16 : decode cL_clauseHolds 16 = .ok (.bipush (-102), 2) := by decide +kernel
theorem dL_clauseHolds_18 : decode cL_clauseHolds 18 = .ok (.ireturn, 1) := by decide +kernel
theorem dL_parityHolds_0 : decode cL_parityHolds 0 = .ok (.aload_n 0, 1) := by decide +kernel
theorem dL_parityHolds_1 : decode cL_parityHolds 1 = .ok (.iload_n 1, 1) := by decide +kernel
theorem dL_parityHolds_2 : decode cL_parityHolds 2 = .ok (.iload_n 2, 1) := by decide +kernel
theorem dL_parityHolds_3 : decode cL_parityHolds 3 = .ok (.invokevirtual 80, 3) := by decide +kernel
theorem dL_parityHolds_6 : decode cL_parityHolds 6 = .ok (.ifCond .eq 7, 3) := by decide +kernel
theorem dL_parityHolds_9 : decode cL_parityHolds 9 = .ok (.iconst 1, 1) := by decide +kernel
theorem dL_parityHolds_10 : decode cL_parityHolds 10 = .ok (.goto 4, 3) := by decide +kernel
theorem dL_parityHolds_13 : decode cL_parityHolds 13 = .ok (.iconst 0, 1) := by decide +kernel
theorem dL_parityHolds_14 : decode cL_parityHolds 14 = .ok (.ireturn, 1) := by decide +kernel
theorem dL_parityHolds_15 : decode cL_parityHolds 15 = .ok (.astore_n 3, 1) := by decide +kernel
theorem dL_parityHolds_16 : decode cL_parityHolds 16 = .ok (.bipush (-102), 2) := by decide +kernel
theorem dL_parityHolds_18 : decode cL_parityHolds 18 = .ok (.ireturn, 1) := by decide +kernel
theorem dL_row_0 : decode cL_row 0 = .ok (.aload_n 0, 1) := by decide +kernel
theorem dL_row_1 : decode cL_row 1 = .ok (.iload_n 1, 1) := by decide +kernel
theorem dL_row_2 : decode cL_row 2 = .ok (.invokevirtual 83, 3) := by decide +kernel
theorem dL_row_5 : decode cL_row 5 = .ok (.ireturn, 1) := by decide +kernel
theorem dL_row_6 : decode cL_row 6 = .ok (.astore_n 2, 1) := by decide +kernel
theorem dL_row_7 : decode cL_row 7 = .ok (.bipush (-103), 2) := by decide +kernel
theorem dL_row_9 : decode cL_row 9 = .ok (.ireturn, 1) := by decide +kernel
theorem dL_save_0 : decode cL_save 0 = .ok (.aload_n 0, 1) := by decide +kernel
theorem dL_save_1 : decode cL_save 1 = .ok (.iload_n 1, 1) := by decide +kernel
theorem dL_save_2 : decode cL_save 2 = .ok (.invokevirtual 86, 3) := by decide +kernel
theorem dL_save_5 : decode cL_save 5 = .ok (.ireturn, 1) := by decide +kernel
theorem dL_save_6 : decode cL_save 6 = .ok (.astore_n 2, 1) := by decide +kernel
theorem dL_save_7 : decode cL_save 7 = .ok (.bipush (-101), 2) := by decide +kernel
theorem dL_save_9 : decode cL_save 9 = .ok (.ireturn, 1) := by decide +kernel
theorem dL_restore_0 : decode cL_restore 0 = .ok (.aload_n 0, 1) := by decide +kernel
theorem dL_restore_1 : decode cL_restore 1 = .ok (.iload_n 1, 1) := by decide +kernel
theorem dL_restore_2 : decode cL_restore 2 = .ok (.invokevirtual 89, 3) := by decide +kernel
theorem dL_restore_5 : decode cL_restore 5 = .ok (.ireturn, 1) := by decide +kernel
theorem dL_restore_6 : decode cL_restore 6 = .ok (.astore_n 2, 1) := by decide +kernel
theorem dL_restore_7 : decode cL_restore 7 = .ok (.bipush (-101), 2) := by decide +kernel
theorem dL_restore_9 : decode cL_restore 9 = .ok (.ireturn, 1) := by decide +kernel
theorem dL_restore_10 : decode cL_restore 10 = .ok (.astore_n 2, 1) := by decide +kernel
theorem dL_restore_11 : decode cL_restore 11 = .ok (.bipush (-103), 2) := by decide +kernel
theorem dL_restore_13 : decode cL_restore 13 = .ok (.ireturn, 1) := by decide +kernel
theorem dL_errors_0 : decode cL_errors 0 = .ok (.aload_n 0, 1) := by decide +kernel
theorem dL_errors_1 : decode cL_errors 1 = .ok (.invokevirtual 92, 3) := by decide +kernel
theorem dL_errors_4 : decode cL_errors 4 = .ok (.istore_n 1, 1) := by decide +kernel
theorem dL_errors_5 : decode cL_errors 5 = .ok (.aload_n 0, 1) := by decide +kernel
theorem dL_errors_6 : decode cL_errors 6 = .ok (.sipush 256, 3) := by decide +kernel
theorem dL_errors_9 : decode cL_errors 9 = .ok (.invokestatic 95, 3) := by decide +kernel
theorem dL_errors_12 : decode cL_errors 12 = .ok (.bipush (-102), 2) := by decide +kernel
theorem dL_errors_14 : decode cL_errors 14 = .ok (.if_icmp .ne 268, 3) := by decide +kernel
theorem dL_errors_17 : decode cL_errors 17 = .ok (.aload_n 0, 1) := by decide +kernel
theorem dL_errors_18 : decode cL_errors 18 = .ok (.iconst (-1), 1) := by decide +kernel
theorem dL_errors_19 : decode cL_errors 19 = .ok (.invokestatic 95, 3) := by decide +kernel
theorem dL_errors_22 : decode cL_errors 22 = .ok (.bipush (-102), 2) := by decide +kernel
theorem dL_errors_24 : decode cL_errors 24 = .ok (.if_icmp .ne 258, 3) := by decide +kernel
theorem dL_errors_27 : decode cL_errors 27 = .ok (.aload_n 0, 1) := by decide +kernel
theorem dL_errors_28 : decode cL_errors 28 = .ok (.iload_n 1, 1) := by decide +kernel
theorem dL_errors_29 : decode cL_errors 29 = .ok (.invokestatic 100, 3) := by decide +kernel
theorem dL_errors_32 : decode cL_errors 32 = .ok (.bipush (-101), 2) := by decide +kernel
theorem dL_errors_34 : decode cL_errors 34 = .ok (.if_icmp .ne 248, 3) := by decide +kernel
theorem dL_errors_37 : decode cL_errors 37 = .ok (.aload_n 0, 1) := by decide +kernel
theorem dL_errors_38 : decode cL_errors 38 = .ok (.iconst (-1), 1) := by decide +kernel
theorem dL_errors_39 : decode cL_errors 39 = .ok (.invokestatic 103, 3) := by decide +kernel
theorem dL_errors_42 : decode cL_errors 42 = .ok (.bipush (-101), 2) := by decide +kernel
theorem dL_errors_44 : decode cL_errors 44 = .ok (.if_icmp .ne 238, 3) := by decide +kernel
theorem dL_errors_47 : decode cL_errors 47 = .ok (.aload_n 0, 1) := by decide +kernel
theorem dL_errors_48 : decode cL_errors 48 = .ok (.iload_n 1, 1) := by decide +kernel
theorem dL_errors_49 : decode cL_errors 49 = .ok (.invokestatic 106, 3) := by decide +kernel
theorem dL_errors_52 : decode cL_errors 52 = .ok (.bipush (-101), 2) := by decide +kernel
theorem dL_errors_54 : decode cL_errors 54 = .ok (.if_icmp .ne 228, 3) := by decide +kernel
theorem dL_errors_57 : decode cL_errors 57 = .ok (.aload_n 0, 1) := by decide +kernel
theorem dL_errors_58 : decode cL_errors 58 = .ok (.sipush 256, 3) := by decide +kernel
theorem dL_errors_61 : decode cL_errors 61 = .ok (.iconst 0, 1) := by decide +kernel
theorem dL_errors_62 : decode cL_errors 62 = .ok (.invokestatic 109, 3) := by decide +kernel
theorem dL_errors_65 : decode cL_errors 65 = .ok (.bipush (-102), 2) := by decide +kernel
theorem dL_errors_67 : decode cL_errors 67 = .ok (.if_icmp .ne 215, 3) := by decide +kernel
theorem dL_errors_70 : decode cL_errors 70 = .ok (.aload_n 0, 1) := by decide +kernel
theorem dL_errors_71 : decode cL_errors 71 = .ok (.iconst 3, 1) := by decide +kernel
theorem dL_errors_72 : decode cL_errors 72 = .ok (.iconst 2, 1) := by decide +kernel
theorem dL_errors_73 : decode cL_errors 73 = .ok (.invokestatic 109, 3) := by decide +kernel
theorem dL_errors_76 : decode cL_errors 76 = .ok (.bipush (-102), 2) := by decide +kernel
theorem dL_errors_78 : decode cL_errors 78 = .ok (.if_icmp .ne 204, 3) := by decide +kernel
theorem dL_errors_81 : decode cL_errors 81 = .ok (.aload_n 0, 1) := by decide +kernel
theorem dL_errors_82 : decode cL_errors 82 = .ok (.iconst 1, 1) := by decide +kernel
theorem dL_errors_83 : decode cL_errors 83 = .ok (.iconst 2, 1) := by decide +kernel
theorem dL_errors_84 : decode cL_errors 84 = .ok (.invokestatic 113, 3) := by decide +kernel
theorem dL_errors_87 : decode cL_errors 87 = .ok (.bipush (-102), 2) := by decide +kernel
theorem dL_errors_89 : decode cL_errors 89 = .ok (.if_icmp .ne 193, 3) := by decide +kernel
theorem dL_errors_92 : decode cL_errors 92 = .ok (.aload_n 0, 1) := by decide +kernel
theorem dL_errors_93 : decode cL_errors 93 = .ok (.iconst (-1), 1) := by decide +kernel
theorem dL_errors_94 : decode cL_errors 94 = .ok (.iconst 0, 1) := by decide +kernel
theorem dL_errors_95 : decode cL_errors 95 = .ok (.invokestatic 113, 3) := by decide +kernel
theorem dL_errors_98 : decode cL_errors 98 = .ok (.bipush (-102), 2) := by decide +kernel
theorem dL_errors_100 : decode cL_errors 100 = .ok (.if_icmp .ne 182, 3) := by decide +kernel
theorem dL_errors_103 : decode cL_errors 103 = .ok (.aload_n 0, 1) := by decide +kernel
theorem dL_errors_104 : decode cL_errors 104 = .ok (.iload_n 1, 1) := by decide +kernel
theorem dL_errors_105 : decode cL_errors 105 = .ok (.invokestatic 116, 3) := by decide +kernel
theorem dL_errors_108 : decode cL_errors 108 = .ok (.bipush (-101), 2) := by decide +kernel
theorem dL_errors_110 : decode cL_errors 110 = .ok (.if_icmp .ne 172, 3) := by decide +kernel
theorem dL_errors_113 : decode cL_errors 113 = .ok (.aload_n 0, 1) := by decide +kernel
theorem dL_errors_114 : decode cL_errors 114 = .ok (.iload_n 1, 1) := by decide +kernel
theorem dL_errors_115 : decode cL_errors 115 = .ok (.iload_n 1, 1) := by decide +kernel
theorem dL_errors_116 : decode cL_errors 116 = .ok (.iconst 0, 1) := by decide +kernel
theorem dL_errors_117 : decode cL_errors 117 = .ok (.invokestatic 119, 3) := by decide +kernel
theorem dL_errors_120 : decode cL_errors 120 = .ok (.bipush (-101), 2) := by decide +kernel
theorem dL_errors_122 : decode cL_errors 122 = .ok (.if_icmp .ne 160, 3) := by decide +kernel
theorem dL_errors_125 : decode cL_errors 125 = .ok (.aload_n 0, 1) := by decide +kernel
theorem dL_errors_126 : decode cL_errors 126 = .ok (.iconst (-1), 1) := by decide +kernel
theorem dL_errors_127 : decode cL_errors 127 = .ok (.iconst (-1), 1) := by decide +kernel
theorem dL_errors_128 : decode cL_errors 128 = .ok (.invokestatic 122, 3) := by decide +kernel
theorem dL_errors_131 : decode cL_errors 131 = .ok (.bipush (-101), 2) := by decide +kernel
theorem dL_errors_133 : decode cL_errors 133 = .ok (.if_icmp .ne 149, 3) := by decide +kernel
theorem dL_errors_136 : decode cL_errors 136 = .ok (.aload_n 0, 1) := by decide +kernel
theorem dL_errors_137 : decode cL_errors 137 = .ok (.bipush 16, 2) := by decide +kernel
theorem dL_errors_139 : decode cL_errors 139 = .ok (.invokestatic 124, 3) := by decide +kernel
theorem dL_errors_142 : decode cL_errors 142 = .ok (.bipush (-101), 2) := by decide +kernel
theorem dL_errors_144 : decode cL_errors 144 = .ok (.if_icmp .ne 138, 3) := by decide +kernel
theorem dL_errors_147 : decode cL_errors 147 = .ok (.aload_n 0, 1) := by decide +kernel
theorem dL_errors_148 : decode cL_errors 148 = .ok (.aload_n 0, 1) := by decide +kernel
theorem dL_errors_149 : decode cL_errors 149 = .ok (.invokevirtual 126, 3) := by decide +kernel
theorem dL_errors_152 : decode cL_errors 152 = .ok (.iconst 1, 1) := by decide +kernel
theorem dL_errors_153 : decode cL_errors 153 = .ok (.iadd, 1) := by decide +kernel
theorem dL_errors_154 : decode cL_errors 154 = .ok (.invokestatic 129, 3) := by decide +kernel
theorem dL_errors_157 : decode cL_errors 157 = .ok (.bipush (-102), 2) := by decide +kernel
theorem dL_errors_159 : decode cL_errors 159 = .ok (.if_icmp .ne 123, 3) := by decide +kernel
theorem dL_errors_162 : decode cL_errors 162 = .ok (.aload_n 0, 1) := by decide +kernel
theorem dL_errors_163 : decode cL_errors 163 = .ok (.iconst (-1), 1) := by decide +kernel
theorem dL_errors_164 : decode cL_errors 164 = .ok (.invokestatic 129, 3) := by decide +kernel
theorem dL_errors_167 : decode cL_errors 167 = .ok (.bipush (-102), 2) := by decide +kernel
theorem dL_errors_169 : decode cL_errors 169 = .ok (.if_icmp .ne 113, 3) := by decide +kernel
theorem dL_errors_172 : decode cL_errors 172 = .ok (.aload_n 0, 1) := by decide +kernel
theorem dL_errors_173 : decode cL_errors 173 = .ok (.bipush 8, 2) := by decide +kernel
theorem dL_errors_175 : decode cL_errors 175 = .ok (.invokestatic 131, 3) := by decide +kernel
theorem dL_errors_178 : decode cL_errors 178 = .ok (.bipush (-101), 2) := by decide +kernel
theorem dL_errors_180 : decode cL_errors 180 = .ok (.if_icmp .ne 102, 3) := by decide +kernel
theorem dL_errors_183 : decode cL_errors 183 = .ok (.aload_n 0, 1) := by decide +kernel
theorem dL_errors_184 : decode cL_errors 184 = .ok (.bipush 8, 2) := by decide +kernel
theorem dL_errors_186 : decode cL_errors 186 = .ok (.invokestatic 133, 3) := by decide +kernel
theorem dL_errors_189 : decode cL_errors 189 = .ok (.bipush (-101), 2) := by decide +kernel
theorem dL_errors_191 : decode cL_errors 191 = .ok (.if_icmp .ne 91, 3) := by decide +kernel
theorem dL_errors_194 : decode cL_errors 194 = .ok (.aload_n 0, 1) := by decide +kernel
theorem dL_errors_195 : decode cL_errors 195 = .ok (.iconst (-1), 1) := by decide +kernel
theorem dL_errors_196 : decode cL_errors 196 = .ok (.invokestatic 133, 3) := by decide +kernel
theorem dL_errors_199 : decode cL_errors 199 = .ok (.bipush (-101), 2) := by decide +kernel
theorem dL_errors_201 : decode cL_errors 201 = .ok (.if_icmp .ne 81, 3) := by decide +kernel
theorem dL_errors_204 : decode cL_errors 204 = .ok (.aload_n 0, 1) := by decide +kernel
theorem dL_errors_205 : decode cL_errors 205 = .ok (.iconst (-1), 1) := by decide +kernel
theorem dL_errors_206 : decode cL_errors 206 = .ok (.invokestatic 136, 3) := by decide +kernel
theorem dL_errors_209 : decode cL_errors 209 = .ok (.bipush (-101), 2) := by decide +kernel
theorem dL_errors_211 : decode cL_errors 211 = .ok (.if_icmp .ne 71, 3) := by decide +kernel
theorem dL_errors_214 : decode cL_errors 214 = .ok (.aload_n 0, 1) := by decide +kernel
theorem dL_errors_215 : decode cL_errors 215 = .ok (.iconst 1, 1) := by decide +kernel
theorem dL_errors_216 : decode cL_errors 216 = .ok (.iconst 1, 1) := by decide +kernel
theorem dL_errors_217 : decode cL_errors 217 = .ok (.invokestatic 138, 3) := by decide +kernel
theorem dL_errors_220 : decode cL_errors 220 = .ok (.bipush (-102), 2) := by decide +kernel
theorem dL_errors_222 : decode cL_errors 222 = .ok (.if_icmp .ne 60, 3) := by decide +kernel
theorem dL_errors_225 : decode cL_errors 225 = .ok (.aload_n 0, 1) := by decide +kernel
theorem dL_errors_226 : decode cL_errors 226 = .ok (.iconst 0, 1) := by decide +kernel
theorem dL_errors_227 : decode cL_errors 227 = .ok (.iconst 2, 1) := by decide +kernel
theorem dL_errors_228 : decode cL_errors 228 = .ok (.invokestatic 141, 3) := by decide +kernel
theorem dL_errors_231 : decode cL_errors 231 = .ok (.bipush (-102), 2) := by decide +kernel
theorem dL_errors_233 : decode cL_errors 233 = .ok (.if_icmp .ne 49, 3) := by decide +kernel
theorem dL_errors_236 : decode cL_errors 236 = .ok (.aload_n 0, 1) := by decide +kernel
theorem dL_errors_237 : decode cL_errors 237 = .ok (.iconst 2, 1) := by decide +kernel
theorem dL_errors_238 : decode cL_errors 238 = .ok (.invokestatic 144, 3) := by decide +kernel
theorem dL_errors_241 : decode cL_errors 241 = .ok (.bipush (-101), 2) := by decide +kernel
theorem dL_errors_243 : decode cL_errors 243 = .ok (.if_icmp .ne 39, 3) := by decide +kernel
theorem dL_errors_246 : decode cL_errors 246 = .ok (.aload_n 0, 1) := by decide +kernel
theorem dL_errors_247 : decode cL_errors 247 = .ok (.iconst (-1), 1) := by decide +kernel
theorem dL_errors_248 : decode cL_errors 248 = .ok (.invokestatic 146, 3) := by decide +kernel
theorem dL_errors_251 : decode cL_errors 251 = .ok (.bipush (-101), 2) := by decide +kernel
theorem dL_errors_253 : decode cL_errors 253 = .ok (.if_icmp .ne 29, 3) := by decide +kernel
theorem dL_errors_256 : decode cL_errors 256 = .ok (.aload_n 0, 1) := by decide +kernel
theorem dL_errors_257 : decode cL_errors 257 = .ok (.iconst (-1), 1) := by decide +kernel
theorem dL_errors_258 : decode cL_errors 258 = .ok (.invokevirtual 148, 3) := by decide +kernel
theorem dL_errors_261 : decode cL_errors 261 = .ok (.bipush (-9), 2) := by decide +kernel
theorem dL_errors_263 : decode cL_errors 263 = .ok (.if_icmp .ne 19, 3) := by decide +kernel
theorem dL_errors_266 : decode cL_errors 266 = .ok (.aload_n 0, 1) := by decide +kernel
theorem dL_errors_267 : decode cL_errors 267 = .ok (.sipush 256, 3) := by decide +kernel
theorem dL_errors_270 : decode cL_errors 270 = .ok (.invokevirtual 148, 3) := by decide +kernel
theorem dL_errors_273 : decode cL_errors 273 = .ok (.bipush (-9), 2) := by decide +kernel
theorem dL_errors_275 : decode cL_errors 275 = .ok (.if_icmp .ne 7, 3) := by decide +kernel
theorem dL_errors_278 : decode cL_errors 278 = .ok (.iconst 1, 1) := by decide +kernel
theorem dL_errors_279 : decode cL_errors 279 = .ok (.goto 4, 3) := by decide +kernel
theorem dL_errors_282 : decode cL_errors 282 = .ok (.iconst 0, 1) := by decide +kernel
theorem dL_errors_283 : decode cL_errors 283 = .ok (.istore_n 2, 1) := by decide +kernel
theorem dL_errors_284 : decode cL_errors 284 = .ok (.iload_n 2, 1) := by decide +kernel
theorem dL_errors_285 : decode cL_errors 285 = .ok (.ifCond .eq 204, 3) := by decide +kernel
theorem dL_errors_288 : decode cL_errors 288 = .ok (.iload_n 1, 1) := by decide +kernel
theorem dL_errors_289 : decode cL_errors 289 = .ok (.ifCond .eq 28, 3) := by decide +kernel
theorem dL_errors_292 : decode cL_errors 292 = .ok (.aload_n 0, 1) := by decide +kernel
theorem dL_errors_293 : decode cL_errors 293 = .ok (.iconst 0, 1) := by decide +kernel
theorem dL_errors_294 : decode cL_errors 294 = .ok (.iconst 0, 1) := by decide +kernel
theorem dL_errors_295 : decode cL_errors 295 = .ok (.bipush 8, 2) := by decide +kernel
theorem dL_errors_297 : decode cL_errors 297 = .ok (.invokestatic 119, 3) := by decide +kernel
theorem dL_errors_300 : decode cL_errors 300 = .ok (.bipush (-101), 2) := by decide +kernel
theorem dL_errors_302 : decode cL_errors 302 = .ok (.if_icmp .ne 187, 3) := by decide +kernel
theorem dL_errors_305 : decode cL_errors 305 = .ok (.aload_n 0, 1) := by decide +kernel
theorem dL_errors_306 : decode cL_errors 306 = .ok (.iconst 0, 1) := by decide +kernel
theorem dL_errors_307 : decode cL_errors 307 = .ok (.iconst 0, 1) := by decide +kernel
theorem dL_errors_308 : decode cL_errors 308 = .ok (.iconst 0, 1) := by decide +kernel
theorem dL_errors_309 : decode cL_errors 309 = .ok (.invokestatic 119, 3) := by decide +kernel
theorem dL_errors_312 : decode cL_errors 312 = .ok (.bipush (-103), 2) := by decide +kernel
theorem dL_errors_314 : decode cL_errors 314 = .ok (.if_icmp .ne 175, 3) := by decide +kernel
theorem dL_errors_317 : decode cL_errors 317 = .ok (.iload_n 1, 1) := by decide +kernel
theorem dL_errors_318 : decode cL_errors 318 = .ok (.bipush 24, 2) := by decide +kernel
theorem dL_errors_320 : decode cL_errors 320 = .ok (.if_icmp .lt 25, 3) := by decide +kernel
theorem dL_errors_323 : decode cL_errors 323 = .ok (.aload_n 0, 1) := by decide +kernel
theorem dL_errors_324 : decode cL_errors 324 = .ok (.iconst 1, 1) := by decide +kernel
theorem dL_errors_325 : decode cL_errors 325 = .ok (.iconst 0, 1) := by decide +kernel
theorem dL_errors_326 : decode cL_errors 326 = .ok (.invokestatic 109, 3) := by decide +kernel
theorem dL_errors_329 : decode cL_errors 329 = .ok (.bipush (-103), 2) := by decide +kernel
theorem dL_errors_331 : decode cL_errors 331 = .ok (.if_icmp .ne 158, 3) := by decide +kernel
theorem dL_errors_334 : decode cL_errors 334 = .ok (.aload_n 0, 1) := by decide +kernel
theorem dL_errors_335 : decode cL_errors 335 = .ok (.iconst 1, 1) := by decide +kernel
theorem dL_errors_336 : decode cL_errors 336 = .ok (.iconst 0, 1) := by decide +kernel
theorem dL_errors_337 : decode cL_errors 337 = .ok (.invokestatic 113, 3) := by decide +kernel
theorem dL_errors_340 : decode cL_errors 340 = .ok (.bipush (-103), 2) := by decide +kernel
theorem dL_errors_342 : decode cL_errors 342 = .ok (.if_icmp .ne 147, 3) := by decide +kernel
theorem dL_errors_345 : decode cL_errors 345 = .ok (.aload_n 0, 1) := by decide +kernel
theorem dL_errors_346 : decode cL_errors 346 = .ok (.invokevirtual 151, 3) := by decide +kernel
theorem dL_errors_349 : decode cL_errors 349 = .ok (.bipush (-9), 2) := by decide +kernel
theorem dL_errors_351 : decode cL_errors 351 = .ok (.if_icmp .eq 10, 3) := by decide +kernel
theorem dL_errors_354 : decode cL_errors 354 = .ok (.aload_n 0, 1) := by decide +kernel
theorem dL_errors_355 : decode cL_errors 355 = .ok (.invokevirtual 126, 3) := by decide +kernel
theorem dL_errors_358 : decode cL_errors 358 = .ok (.ifCond .gt 21, 3) := by decide +kernel
theorem dL_errors_361 : decode cL_errors 361 = .ok (.aload_n 0, 1) := by decide +kernel
theorem dL_errors_362 : decode cL_errors 362 = .ok (.invokestatic 154, 3) := by decide +kernel
theorem dL_errors_365 : decode cL_errors 365 = .ok (.bipush (-103), 2) := by decide +kernel
theorem dL_errors_367 : decode cL_errors 367 = .ok (.if_icmp .ne 122, 3) := by decide +kernel
theorem dL_errors_370 : decode cL_errors 370 = .ok (.aload_n 0, 1) := by decide +kernel
theorem dL_errors_371 : decode cL_errors 371 = .ok (.invokestatic 157, 3) := by decide +kernel
theorem dL_errors_374 : decode cL_errors 374 = .ok (.bipush (-103), 2) := by decide +kernel
theorem dL_errors_376 : decode cL_errors 376 = .ok (.if_icmp .ne 113, 3) := by decide +kernel
theorem dL_errors_379 : decode cL_errors 379 = .ok (.aload_n 0, 1) := by decide +kernel
theorem dL_errors_380 : decode cL_errors 380 = .ok (.invokevirtual 151, 3) := by decide +kernel
theorem dL_errors_383 : decode cL_errors 383 = .ok (.bipush (-9), 2) := by decide +kernel
theorem dL_errors_385 : decode cL_errors 385 = .ok (.if_icmp .eq 13, 3) := by decide +kernel
theorem dL_errors_388 : decode cL_errors 388 = .ok (.aload_n 0, 1) := by decide +kernel
theorem dL_errors_389 : decode cL_errors 389 = .ok (.iconst 0, 1) := by decide +kernel
theorem dL_errors_390 : decode cL_errors 390 = .ok (.invokestatic 124, 3) := by decide +kernel
theorem dL_errors_393 : decode cL_errors 393 = .ok (.bipush (-103), 2) := by decide +kernel
theorem dL_errors_395 : decode cL_errors 395 = .ok (.if_icmp .ne 94, 3) := by decide +kernel
theorem dL_errors_398 : decode cL_errors 398 = .ok (.aload_n 0, 1) := by decide +kernel
theorem dL_errors_399 : decode cL_errors 399 = .ok (.invokevirtual 160, 3) := by decide +kernel
theorem dL_errors_402 : decode cL_errors 402 = .ok (.ifCond .ne 13, 3) := by decide +kernel
theorem dL_errors_405 : decode cL_errors 405 = .ok (.aload_n 0, 1) := by decide +kernel
theorem dL_errors_406 : decode cL_errors 406 = .ok (.iconst 0, 1) := by decide +kernel
theorem dL_errors_407 : decode cL_errors 407 = .ok (.invokestatic 164, 3) := by decide +kernel
theorem dL_errors_410 : decode cL_errors 410 = .ok (.bipush (-103), 2) := by decide +kernel
theorem dL_errors_412 : decode cL_errors 412 = .ok (.if_icmp .ne 77, 3) := by decide +kernel
theorem dL_errors_415 : decode cL_errors 415 = .ok (.iload_n 1, 1) := by decide +kernel
theorem dL_errors_416 : decode cL_errors 416 = .ok (.ifCond .eq 69, 3) := by decide +kernel
theorem dL_errors_419 : decode cL_errors 419 = .ok (.aload_n 0, 1) := by decide +kernel
theorem dL_errors_420 : decode cL_errors 420 = .ok (.iconst 0, 1) := by decide +kernel
theorem dL_errors_421 : decode cL_errors 421 = .ok (.invokestatic 100, 3) := by decide +kernel
theorem dL_errors_424 : decode cL_errors 424 = .ok (.iconst 1, 1) := by decide +kernel
theorem dL_errors_425 : decode cL_errors 425 = .ok (.if_icmp .ne 13, 3) := by decide +kernel
theorem dL_errors_428 : decode cL_errors 428 = .ok (.iload_n 1, 1) := by decide +kernel
theorem dL_errors_429 : decode cL_errors 429 = .ok (.bipush 24, 2) := by decide +kernel
theorem dL_errors_431 : decode cL_errors 431 = .ok (.if_icmp .ge 7, 3) := by decide +kernel
theorem dL_errors_434 : decode cL_errors 434 = .ok (.iconst 1, 1) := by decide +kernel
theorem dL_errors_435 : decode cL_errors 435 = .ok (.goto 4, 3) := by decide +kernel
theorem dL_errors_438 : decode cL_errors 438 = .ok (.iconst 0, 1) := by decide +kernel
theorem dL_errors_439 : decode cL_errors 439 = .ok (.aload_n 0, 1) := by decide +kernel
theorem dL_errors_440 : decode cL_errors 440 = .ok (.iconst 0, 1) := by decide +kernel
theorem dL_errors_441 : decode cL_errors 441 = .ok (.iconst 0, 1) := by decide +kernel
theorem dL_errors_442 : decode cL_errors 442 = .ok (.invokestatic 122, 3) := by decide +kernel
theorem dL_errors_445 : decode cL_errors 445 = .ok (.bipush (-103), 2) := by decide +kernel
theorem dL_errors_447 : decode cL_errors 447 = .ok (.if_icmp .eq 7, 3) := by decide +kernel
theorem dL_errors_450 : decode cL_errors 450 = .ok (.iconst 1, 1) := by decide +kernel
theorem dL_errors_451 : decode cL_errors 451 = .ok (.goto 4, 3) := by decide +kernel
theorem dL_errors_454 : decode cL_errors 454 = .ok (.iconst 0, 1) := by decide +kernel
theorem dL_errors_455 : decode cL_errors 455 = .ok (.if_icmp .ne 34, 3) := by decide +kernel
theorem dL_errors_458 : decode cL_errors 458 = .ok (.aload_n 0, 1) := by decide +kernel
theorem dL_errors_459 : decode cL_errors 459 = .ok (.aload_n 0, 1) := by decide +kernel
theorem dL_errors_460 : decode cL_errors 460 = .ok (.iconst 0, 1) := by decide +kernel
theorem dL_errors_461 : decode cL_errors 461 = .ok (.invokestatic 100, 3) := by decide +kernel
theorem dL_errors_464 : decode cL_errors 464 = .ok (.iconst 1, 1) := by decide +kernel
theorem dL_errors_465 : decode cL_errors 465 = .ok (.if_icmp .ne 13, 3) := by decide +kernel
theorem dL_errors_468 : decode cL_errors 468 = .ok (.iload_n 1, 1) := by decide +kernel
theorem dL_errors_469 : decode cL_errors 469 = .ok (.bipush 24, 2) := by decide +kernel
theorem dL_errors_471 : decode cL_errors 471 = .ok (.if_icmp .ge 7, 3) := by decide +kernel
theorem dL_errors_474 : decode cL_errors 474 = .ok (.iconst 1, 1) := by decide +kernel
theorem dL_errors_475 : decode cL_errors 475 = .ok (.goto 4, 3) := by decide +kernel
theorem dL_errors_478 : decode cL_errors 478 = .ok (.iconst 0, 1) := by decide +kernel
theorem dL_errors_479 : decode cL_errors 479 = .ok (.invokestatic 167, 3) := by decide +kernel
theorem dL_errors_482 : decode cL_errors 482 = .ok (.ifCond .eq 7, 3) := by decide +kernel
theorem dL_errors_485 : decode cL_errors 485 = .ok (.iconst 1, 1) := by decide +kernel
theorem dL_errors_486 : decode cL_errors 486 = .ok (.goto 4, 3) := by decide +kernel
theorem dL_errors_489 : decode cL_errors 489 = .ok (.iconst 0, 1) := by decide +kernel
theorem dL_errors_490 : decode cL_errors 490 = .ok (.ireturn, 1) := by decide +kernel
theorem dL_undone_0 : decode cL_undone 0 = .ok (.iload_n 1, 1) := by decide +kernel
theorem dL_undone_1 : decode cL_undone 1 = .ok (.ifCond .eq 10, 3) := by decide +kernel
theorem dL_undone_4 : decode cL_undone 4 = .ok (.aload_n 0, 1) := by decide +kernel
theorem dL_undone_5 : decode cL_undone 5 = .ok (.invokestatic 171, 3) := by decide +kernel
theorem dL_undone_8 : decode cL_undone 8 = .ok (.ifCond .lt 7, 3) := by decide +kernel
theorem dL_undone_11 : decode cL_undone 11 = .ok (.iconst 1, 1) := by decide +kernel
theorem dL_undone_12 : decode cL_undone 12 = .ok (.goto 4, 3) := by decide +kernel
theorem dL_undone_15 : decode cL_undone 15 = .ok (.iconst 0, 1) := by decide +kernel
theorem dL_undone_16 : decode cL_undone 16 = .ok (.ireturn, 1) := by decide +kernel
theorem dL_load_0 : decode cL_load 0 = .ok (.aload_n 0, 1) := by decide +kernel
theorem dL_load_1 : decode cL_load 1 = .ok (.invokevirtual 173, 3) := by decide +kernel
theorem dL_load_4 : decode cL_load 4 = .ok (.istore_n 3, 1) := by decide +kernel
theorem dL_load_5 : decode cL_load 5 = .ok (.iload_n 2, 1) := by decide +kernel
theorem dL_load_6 : decode cL_load 6 = .ok (.istore 4, 2) := by decide +kernel
theorem dL_load_8 : decode cL_load 8 = .ok (.iconst 0, 1) := by decide +kernel
theorem dL_load_9 : decode cL_load 9 = .ok (.istore 5, 2) := by decide +kernel
theorem dL_load_11 : decode cL_load 11 = .ok (.iload 5, 2) := by decide +kernel
theorem dL_load_13 : decode cL_load 13 = .ok (.iload_n 1, 1) := by decide +kernel
theorem dL_load_14 : decode cL_load 14 = .ok (.bipush 9, 2) := by decide +kernel
theorem dL_load_16 : decode cL_load 16 = .ok (.irem, 1) := by decide +kernel
theorem dL_load_17 : decode cL_load 17 = .ok (.if_icmp .ge 150, 3) := by decide +kernel
theorem dL_load_20 : decode cL_load 20 = .ok (.iload 4, 2) := by decide +kernel
theorem dL_load_22 : decode cL_load 22 = .ok (.sipush 255, 3) := by decide +kernel
theorem dL_load_25 : decode cL_load 25 = .ok (.irem, 1) := by decide +kernel
theorem dL_load_26 : decode cL_load 26 = .ok (.iconst 1, 1) := by decide +kernel
theorem dL_load_27 : decode cL_load 27 = .ok (.iadd, 1) := by decide +kernel
theorem dL_load_28 : decode cL_load 28 = .ok (.istore 6, 2) := by decide +kernel
theorem dL_load_30 : decode cL_load 30 = .ok (.iload 4, 2) := by decide +kernel
theorem dL_load_32 : decode cL_load 32 = .ok (.iconst 3, 1) := by decide +kernel
theorem dL_load_33 : decode cL_load 33 = .ok (.irem, 1) := by decide +kernel
theorem dL_load_34 : decode cL_load 34 = .ok (.ifCond .ne 26, 3) := by decide +kernel
theorem dL_load_37 : decode cL_load 37 = .ok (.iload_n 3, 1) := by decide +kernel
theorem dL_load_38 : decode cL_load 38 = .ok (.aload_n 0, 1) := by decide +kernel
theorem dL_load_39 : decode cL_load 39 = .ok (.bipush 61, 2) := by decide +kernel
theorem dL_load_41 : decode cL_load 41 = .ok (.invokestatic 95, 3) := by decide +kernel
theorem dL_load_44 : decode cL_load 44 = .ok (.aload_n 0, 1) := by decide +kernel
theorem dL_load_45 : decode cL_load 45 = .ok (.bipush 48, 2) := by decide +kernel
theorem dL_load_47 : decode cL_load 47 = .ok (.iload 4, 2) := by decide +kernel
theorem dL_load_49 : decode cL_load 49 = .ok (.iconst 3, 1) := by decide +kernel
theorem dL_load_50 : decode cL_load 50 = .ok (.idiv, 1) := by decide +kernel
theorem dL_load_51 : decode cL_load 51 = .ok (.iconst 2, 1) := by decide +kernel
theorem dL_load_52 : decode cL_load 52 = .ok (.irem, 1) := by decide +kernel
theorem dL_load_53 : decode cL_load 53 = .ok (.iadd, 1) := by decide +kernel
theorem dL_load_54 : decode cL_load 54 = .ok (.invokestatic 95, 3) := by decide +kernel
theorem dL_load_57 : decode cL_load 57 = .ok (.iadd, 1) := by decide +kernel
theorem dL_load_58 : decode cL_load 58 = .ok (.iadd, 1) := by decide +kernel
theorem dL_load_59 : decode cL_load 59 = .ok (.istore_n 3, 1) := by decide +kernel
theorem dL_load_60 : decode cL_load 60 = .ok (.iconst 0, 1) := by decide +kernel
theorem dL_load_61 : decode cL_load 61 = .ok (.istore 7, 2) := by decide +kernel
theorem dL_load_63 : decode cL_load 63 = .ok (.iconst 0, 1) := by decide +kernel
theorem dL_load_64 : decode cL_load 64 = .ok (.istore 8, 2) := by decide +kernel
theorem dL_load_66 : decode cL_load 66 = .ok (.iload 8, 2) := by decide +kernel
theorem dL_load_68 : decode cL_load 68 = .ok (.bipush 8, 2) := by decide +kernel
theorem dL_load_70 : decode cL_load 70 = .ok (.if_icmp .ge 65, 3) := by decide +kernel
theorem dL_load_73 : decode cL_load 73 = .ok (.iload 6, 2) := by decide +kernel
theorem dL_load_75 : decode cL_load 75 = .ok (.iload 8, 2) := by decide +kernel
theorem dL_load_77 : decode cL_load 77 = .ok (.ishr, 1) := by decide +kernel
theorem dL_load_78 : decode cL_load 78 = .ok (.iconst 1, 1) := by decide +kernel
theorem dL_load_79 : decode cL_load 79 = .ok (.iand, 1) := by decide +kernel
theorem dL_load_80 : decode cL_load 80 = .ok (.iconst 1, 1) := by decide +kernel
theorem dL_load_81 : decode cL_load 81 = .ok (.if_icmp .ne 48, 3) := by decide +kernel
theorem dL_load_84 : decode cL_load 84 = .ok (.iload 7, 2) := by decide +kernel
theorem dL_load_86 : decode cL_load 86 = .ok (.iconst 4, 1) := by decide +kernel
theorem dL_load_87 : decode cL_load 87 = .ok (.if_icmp .ge 42, 3) := by decide +kernel
theorem dL_load_90 : decode cL_load 90 = .ok (.iload_n 3, 1) := by decide +kernel
theorem dL_load_91 : decode cL_load 91 = .ok (.aload_n 0, 1) := by decide +kernel
theorem dL_load_92 : decode cL_load 92 = .ok (.iload 4, 2) := by decide +kernel
theorem dL_load_94 : decode cL_load 94 = .ok (.iconst 3, 1) := by decide +kernel
theorem dL_load_95 : decode cL_load 95 = .ok (.irem, 1) := by decide +kernel
theorem dL_load_96 : decode cL_load 96 = .ok (.ifCond .eq 15, 3) := by decide +kernel
theorem dL_load_99 : decode cL_load 99 = .ok (.iload 4, 2) := by decide +kernel
theorem dL_load_101 : decode cL_load 101 = .ok (.iload 8, 2) := by decide +kernel
theorem dL_load_103 : decode cL_load 103 = .ok (.iconst 4, 1) := by decide +kernel
theorem dL_load_104 : decode cL_load 104 = .ok (.iadd, 1) := by decide +kernel
theorem dL_load_105 : decode cL_load 105 = .ok (.ishr, 1) := by decide +kernel
theorem dL_load_106 : decode cL_load 106 = .ok (.iconst 1, 1) := by decide +kernel
theorem dL_load_107 : decode cL_load 107 = .ok (.iand, 1) := by decide +kernel
theorem dL_load_108 : decode cL_load 108 = .ok (.ifCond .ne 8, 3) := by decide +kernel
theorem dL_load_111 : decode cL_load 111 = .ok (.bipush 97, 2) := by decide +kernel
theorem dL_load_113 : decode cL_load 113 = .ok (.goto 5, 3) := by decide +kernel
theorem dL_load_116 : decode cL_load 116 = .ok (.bipush 65, 2) := by decide +kernel
theorem dL_load_118 : decode cL_load 118 = .ok (.iload 8, 2) := by decide +kernel
theorem dL_load_120 : decode cL_load 120 = .ok (.iadd, 1) := by decide +kernel
theorem dL_load_121 : decode cL_load 121 = .ok (.invokestatic 95, 3) := by decide +kernel
theorem dL_load_124 : decode cL_load 124 = .ok (.iadd, 1) := by decide +kernel
theorem dL_load_125 : decode cL_load 125 = .ok (.istore_n 3, 1) := by decide +kernel
theorem dL_load_126 : decode cL_load 126 = .ok (.iinc 7 1, 3) := by decide +kernel
theorem dL_load_129 : decode cL_load 129 = .ok (.iinc 8 1, 3) := by decide +kernel
theorem dL_load_132 : decode cL_load 132 = .ok (.goto (-66), 3) := by decide +kernel
theorem dL_load_135 : decode cL_load 135 = .ok (.iload_n 3, 1) := by decide +kernel
theorem dL_load_136 : decode cL_load 136 = .ok (.aload_n 0, 1) := by decide +kernel
theorem dL_load_137 : decode cL_load 137 = .ok (.bipush 59, 2) := by decide +kernel
theorem dL_load_139 : decode cL_load 139 = .ok (.invokestatic 95, 3) := by decide +kernel
theorem dL_load_142 : decode cL_load 142 = .ok (.iadd, 1) := by decide +kernel
theorem dL_load_143 : decode cL_load 143 = .ok (.istore_n 3, 1) := by decide +kernel
theorem dL_load_144 : decode cL_load 144 = .ok (.iload 4, 2) := by decide +kernel
theorem dL_load_146 : decode cL_load 146 = .ok (.bipush 7, 2) := by decide +kernel
theorem dL_load_148 : decode cL_load 148 = .ok (.idiv, 1) := by decide +kernel
theorem dL_load_149 : decode cL_load 149 = .ok (.iload_n 2, 1) := by decide +kernel
theorem dL_load_150 : decode cL_load 150 = .ok (.iload 5, 2) := by decide +kernel
theorem dL_load_152 : decode cL_load 152 = .ok (.iconst 3, 1) := by decide +kernel
theorem dL_load_153 : decode cL_load 153 = .ok (.iadd, 1) := by decide +kernel
theorem dL_load_154 : decode cL_load 154 = .ok (.imul, 1) := by decide +kernel
theorem dL_load_155 : decode cL_load 155 = .ok (.ixor, 1) := by decide +kernel
theorem dL_load_156 : decode cL_load 156 = .ok (.ldc 8, 2) := by decide +kernel
theorem dL_load_158 : decode cL_load 158 = .ok (.iand, 1) := by decide +kernel
theorem dL_load_159 : decode cL_load 159 = .ok (.istore 4, 2) := by decide +kernel
theorem dL_load_161 : decode cL_load 161 = .ok (.iinc 5 1, 3) := by decide +kernel
theorem dL_load_164 : decode cL_load 164 = .ok (.goto (-153), 3) := by decide +kernel
theorem dL_load_167 : decode cL_load 167 = .ok (.iload_n 3, 1) := by decide +kernel
theorem dL_load_168 : decode cL_load 168 = .ok (.iload_n 1, 1) := by decide +kernel
theorem dL_load_169 : decode cL_load 169 = .ok (.bipush 43, 2) := by decide +kernel
theorem dL_load_171 : decode cL_load 171 = .ok (.irem, 1) := by decide +kernel
theorem dL_load_172 : decode cL_load 172 = .ok (.ifCond .ne 19, 3) := by decide +kernel
theorem dL_load_175 : decode cL_load 175 = .ok (.aload_n 0, 1) := by decide +kernel
theorem dL_load_176 : decode cL_load 176 = .ok (.ldc 176, 2) := by decide +kernel
theorem dL_load_178 : decode cL_load 178 = .ok (.iload_n 2, 1) := by decide +kernel
theorem dL_load_179 : decode cL_load 179 = .ok (.bipush 6, 2) := by decide +kernel
theorem dL_load_181 : decode cL_load 181 = .ok (.irem, 1) := by decide +kernel
theorem dL_load_182 : decode cL_load 182 = .ok (.invokevirtual 178, 3) := by decide +kernel
theorem dL_load_185 : decode cL_load 185 = .ok (.invokestatic 95, 3) := by decide +kernel
theorem dL_load_188 : decode cL_load 188 = .ok (.goto 4, 3) := by decide +kernel
theorem dL_load_191 : decode cL_load 191 = .ok (.iconst 0, 1) := by decide +kernel
theorem dL_load_192 : decode cL_load 192 = .ok (.iadd, 1) := by decide +kernel
theorem dL_load_193 : decode cL_load 193 = .ok (.istore_n 3, 1) := by decide +kernel
theorem dL_load_194 : decode cL_load 194 = .ok (.bipush 53, 2) := by decide +kernel
theorem dL_load_196 : decode cL_load 196 = .ok (.iload_n 3, 1) := by decide +kernel
theorem dL_load_197 : decode cL_load 197 = .ok (.imul, 1) := by decide +kernel
theorem dL_load_198 : decode cL_load 198 = .ok (.aload_n 0, 1) := by decide +kernel
theorem dL_load_199 : decode cL_load 199 = .ok (.invokestatic 184, 3) := by decide +kernel
theorem dL_load_202 : decode cL_load 202 = .ok (.iadd, 1) := by decide +kernel
theorem dL_load_203 : decode cL_load 203 = .ok (.ireturn, 1) := by decide +kernel
theorem dL_act_0 : decode cL_act 0 = .ok (.iload_n 1, 1) := by decide +kernel
theorem dL_act_1 : decode cL_act 1 = .ok (.bipush 15, 2) := by decide +kernel
theorem dL_act_3 : decode cL_act 3 = .ok (.iand, 1) := by decide +kernel
theorem dL_act_4 : decode cL_act 4 = .ok (.tableswitch 220 0 14 #[76, 76, 85, 85, 85, 121, 121, 142, 151, 174, 174, 174, 183, 191, 212], 76) := by decide +kernel
theorem dL_act_80 : decode cL_act 80 = .ok (.aload_n 0, 1) := by decide +kernel
theorem dL_act_81 : decode cL_act 81 = .ok (.iload_n 1, 1) := by decide +kernel
theorem dL_act_82 : decode cL_act 82 = .ok (.iconst 4, 1) := by decide +kernel
theorem dL_act_83 : decode cL_act 83 = .ok (.ishr, 1) := by decide +kernel
theorem dL_act_84 : decode cL_act 84 = .ok (.iload_n 2, 1) := by decide +kernel
theorem dL_act_85 : decode cL_act 85 = .ok (.invokestatic 187, 3) := by decide +kernel
theorem dL_act_88 : decode cL_act 88 = .ok (.ireturn, 1) := by decide +kernel
theorem dL_act_89 : decode cL_act 89 = .ok (.aload_n 0, 1) := by decide +kernel
theorem dL_act_90 : decode cL_act 90 = .ok (.iload_n 2, 1) := by decide +kernel
theorem dL_act_91 : decode cL_act 91 = .ok (.iload_n 2, 1) := by decide +kernel
theorem dL_act_92 : decode cL_act 92 = .ok (.bipush 8, 2) := by decide +kernel
theorem dL_act_94 : decode cL_act 94 = .ok (.ishr, 1) := by decide +kernel
theorem dL_act_95 : decode cL_act 95 = .ok (.iand, 1) := by decide +kernel
theorem dL_act_96 : decode cL_act 96 = .ok (.sipush 255, 3) := by decide +kernel
theorem dL_act_99 : decode cL_act 99 = .ok (.iand, 1) := by decide +kernel
theorem dL_act_100 : decode cL_act 100 = .ok (.iload_n 2, 1) := by decide +kernel
theorem dL_act_101 : decode cL_act 101 = .ok (.bipush 16, 2) := by decide +kernel
theorem dL_act_103 : decode cL_act 103 = .ok (.ishr, 1) := by decide +kernel
theorem dL_act_104 : decode cL_act 104 = .ok (.iload_n 2, 1) := by decide +kernel
theorem dL_act_105 : decode cL_act 105 = .ok (.iload_n 2, 1) := by decide +kernel
theorem dL_act_106 : decode cL_act 106 = .ok (.bipush 8, 2) := by decide +kernel
theorem dL_act_108 : decode cL_act 108 = .ok (.ishr, 1) := by decide +kernel
theorem dL_act_109 : decode cL_act 109 = .ok (.iand, 1) := by decide +kernel
theorem dL_act_110 : decode cL_act 110 = .ok (.iconst (-1), 1) := by decide +kernel
theorem dL_act_111 : decode cL_act 111 = .ok (.ixor, 1) := by decide +kernel
theorem dL_act_112 : decode cL_act 112 = .ok (.iand, 1) := by decide +kernel
theorem dL_act_113 : decode cL_act 113 = .ok (.iload_n 2, 1) := by decide +kernel
theorem dL_act_114 : decode cL_act 114 = .ok (.iconst 4, 1) := by decide +kernel
theorem dL_act_115 : decode cL_act 115 = .ok (.ishr, 1) := by decide +kernel
theorem dL_act_116 : decode cL_act 116 = .ok (.iand, 1) := by decide +kernel
theorem dL_act_117 : decode cL_act 117 = .ok (.sipush 255, 3) := by decide +kernel
theorem dL_act_120 : decode cL_act 120 = .ok (.iand, 1) := by decide +kernel
theorem dL_act_121 : decode cL_act 121 = .ok (.invokestatic 109, 3) := by decide +kernel
theorem dL_act_124 : decode cL_act 124 = .ok (.ireturn, 1) := by decide +kernel
theorem dL_act_125 : decode cL_act 125 = .ok (.aload_n 0, 1) := by decide +kernel
theorem dL_act_126 : decode cL_act 126 = .ok (.iload_n 2, 1) := by decide +kernel
theorem dL_act_127 : decode cL_act 127 = .ok (.iload_n 2, 1) := by decide +kernel
theorem dL_act_128 : decode cL_act 128 = .ok (.bipush 9, 2) := by decide +kernel
theorem dL_act_130 : decode cL_act 130 = .ok (.ishr, 1) := by decide +kernel
theorem dL_act_131 : decode cL_act 131 = .ok (.iand, 1) := by decide +kernel
theorem dL_act_132 : decode cL_act 132 = .ok (.sipush 255, 3) := by decide +kernel
theorem dL_act_135 : decode cL_act 135 = .ok (.iand, 1) := by decide +kernel
theorem dL_act_136 : decode cL_act 136 = .ok (.iload_n 2, 1) := by decide +kernel
theorem dL_act_137 : decode cL_act 137 = .ok (.bipush 20, 2) := by decide +kernel
theorem dL_act_139 : decode cL_act 139 = .ok (.ishr, 1) := by decide +kernel
theorem dL_act_140 : decode cL_act 140 = .ok (.iconst 1, 1) := by decide +kernel
theorem dL_act_141 : decode cL_act 141 = .ok (.iand, 1) := by decide +kernel
theorem dL_act_142 : decode cL_act 142 = .ok (.invokestatic 113, 3) := by decide +kernel
theorem dL_act_145 : decode cL_act 145 = .ok (.ireturn, 1) := by decide +kernel
theorem dL_act_146 : decode cL_act 146 = .ok (.aload_n 0, 1) := by decide +kernel
theorem dL_act_147 : decode cL_act 147 = .ok (.iload_n 2, 1) := by decide +kernel
theorem dL_act_148 : decode cL_act 148 = .ok (.bipush 24, 2) := by decide +kernel
theorem dL_act_150 : decode cL_act 150 = .ok (.irem, 1) := by decide +kernel
theorem dL_act_151 : decode cL_act 151 = .ok (.invokestatic 116, 3) := by decide +kernel
theorem dL_act_154 : decode cL_act 154 = .ok (.ireturn, 1) := by decide +kernel
theorem dL_act_155 : decode cL_act 155 = .ok (.aload_n 0, 1) := by decide +kernel
theorem dL_act_156 : decode cL_act 156 = .ok (.iload_n 2, 1) := by decide +kernel
theorem dL_act_157 : decode cL_act 157 = .ok (.bipush 9, 2) := by decide +kernel
theorem dL_act_159 : decode cL_act 159 = .ok (.irem, 1) := by decide +kernel
theorem dL_act_160 : decode cL_act 160 = .ok (.iload_n 2, 1) := by decide +kernel
theorem dL_act_161 : decode cL_act 161 = .ok (.bipush 9, 2) := by decide +kernel
theorem dL_act_163 : decode cL_act 163 = .ok (.idiv, 1) := by decide +kernel
theorem dL_act_164 : decode cL_act 164 = .ok (.bipush 9, 2) := by decide +kernel
theorem dL_act_166 : decode cL_act 166 = .ok (.irem, 1) := by decide +kernel
theorem dL_act_167 : decode cL_act 167 = .ok (.iload_n 2, 1) := by decide +kernel
theorem dL_act_168 : decode cL_act 168 = .ok (.bipush 81, 2) := by decide +kernel
theorem dL_act_170 : decode cL_act 170 = .ok (.idiv, 1) := by decide +kernel
theorem dL_act_171 : decode cL_act 171 = .ok (.bipush 8, 2) := by decide +kernel
theorem dL_act_173 : decode cL_act 173 = .ok (.irem, 1) := by decide +kernel
theorem dL_act_174 : decode cL_act 174 = .ok (.invokestatic 119, 3) := by decide +kernel
theorem dL_act_177 : decode cL_act 177 = .ok (.ireturn, 1) := by decide +kernel
theorem dL_act_178 : decode cL_act 178 = .ok (.aload_n 0, 1) := by decide +kernel
theorem dL_act_179 : decode cL_act 179 = .ok (.iload_n 2, 1) := by decide +kernel
theorem dL_act_180 : decode cL_act 180 = .ok (.bipush 16, 2) := by decide +kernel
theorem dL_act_182 : decode cL_act 182 = .ok (.irem, 1) := by decide +kernel
theorem dL_act_183 : decode cL_act 183 = .ok (.invokestatic 124, 3) := by decide +kernel
theorem dL_act_186 : decode cL_act 186 = .ok (.ireturn, 1) := by decide +kernel
theorem dL_act_187 : decode cL_act 187 = .ok (.aload_n 0, 1) := by decide +kernel
theorem dL_act_188 : decode cL_act 188 = .ok (.iload_n 2, 1) := by decide +kernel
theorem dL_act_189 : decode cL_act 189 = .ok (.iconst 4, 1) := by decide +kernel
theorem dL_act_190 : decode cL_act 190 = .ok (.irem, 1) := by decide +kernel
theorem dL_act_191 : decode cL_act 191 = .ok (.invokestatic 129, 3) := by decide +kernel
theorem dL_act_194 : decode cL_act 194 = .ok (.ireturn, 1) := by decide +kernel
theorem dL_act_195 : decode cL_act 195 = .ok (.aload_n 0, 1) := by decide +kernel
theorem dL_act_196 : decode cL_act 196 = .ok (.invokevirtual 151, 3) := by decide +kernel
theorem dL_act_199 : decode cL_act 199 = .ok (.bipush (-9), 2) := by decide +kernel
theorem dL_act_201 : decode cL_act 201 = .ok (.if_icmp .eq 10, 3) := by decide +kernel
theorem dL_act_204 : decode cL_act 204 = .ok (.aload_n 0, 1) := by decide +kernel
theorem dL_act_205 : decode cL_act 205 = .ok (.invokestatic 154, 3) := by decide +kernel
theorem dL_act_208 : decode cL_act 208 = .ok (.goto 7, 3) := by decide +kernel
theorem dL_act_211 : decode cL_act 211 = .ok (.aload_n 0, 1) := by decide +kernel
theorem dL_act_212 : decode cL_act 212 = .ok (.invokestatic 171, 3) := by decide +kernel
theorem dL_act_215 : decode cL_act 215 = .ok (.ireturn, 1) := by decide +kernel
theorem dL_act_216 : decode cL_act 216 = .ok (.aload_n 0, 1) := by decide +kernel
theorem dL_act_217 : decode cL_act 217 = .ok (.iload_n 2, 1) := by decide +kernel
theorem dL_act_218 : decode cL_act 218 = .ok (.iconst 1, 1) := by decide +kernel
theorem dL_act_219 : decode cL_act 219 = .ok (.iand, 1) := by decide +kernel
theorem dL_act_220 : decode cL_act 220 = .ok (.invokestatic 144, 3) := by decide +kernel
theorem dL_act_223 : decode cL_act 223 = .ok (.ireturn, 1) := by decide +kernel
theorem dL_act_224 : decode cL_act 224 = .ok (.aload_n 0, 1) := by decide +kernel
theorem dL_act_225 : decode cL_act 225 = .ok (.iload_n 2, 1) := by decide +kernel
theorem dL_act_226 : decode cL_act 226 = .ok (.iconst 1, 1) := by decide +kernel
theorem dL_act_227 : decode cL_act 227 = .ok (.iand, 1) := by decide +kernel
theorem dL_act_228 : decode cL_act 228 = .ok (.invokestatic 146, 3) := by decide +kernel
theorem dL_act_231 : decode cL_act 231 = .ok (.ireturn, 1) := by decide +kernel
theorem dL_now_0 : decode cL_now 0 = .ok (.aload_n 0, 1) := by decide +kernel
theorem dL_now_1 : decode cL_now 1 = .ok (.invokevirtual 92, 3) := by decide +kernel
theorem dL_now_4 : decode cL_now 4 = .ok (.istore_n 1, 1) := by decide +kernel
theorem dL_now_5 : decode cL_now 5 = .ok (.ldc2_w 189, 3) := by decide +kernel
theorem dL_now_8 : decode cL_now 8 = .ok (.iload_n 1, 1) := by decide +kernel
theorem dL_now_9 : decode cL_now 9 = .ok (.i2l, 1) := by decide +kernel
theorem dL_now_10 : decode cL_now 10 = .ok (.lmul, 1) := by decide +kernel
theorem dL_now_11 : decode cL_now 11 = .ok (.ldc2_w 191, 3) := by decide +kernel
theorem dL_now_14 : decode cL_now 14 = .ok (.aload_n 0, 1) := by decide +kernel
theorem dL_now_15 : decode cL_now 15 = .ok (.invokevirtual 126, 3) := by decide +kernel
theorem dL_now_18 : decode cL_now 18 = .ok (.i2l, 1) := by decide +kernel
theorem dL_now_19 : decode cL_now 19 = .ok (.lmul, 1) := by decide +kernel
theorem dL_now_20 : decode cL_now 20 = .ok (.ladd, 1) := by decide +kernel
theorem dL_now_21 : decode cL_now 21 = .ok (.aload_n 0, 1) := by decide +kernel
theorem dL_now_22 : decode cL_now 22 = .ok (.invokevirtual 151, 3) := by decide +kernel
theorem dL_now_25 : decode cL_now 25 = .ok (.i2l, 1) := by decide +kernel
theorem dL_now_26 : decode cL_now 26 = .ok (.ladd, 1) := by decide +kernel
theorem dL_now_27 : decode cL_now 27 = .ok (.lstore_n 2, 1) := by decide +kernel
theorem dL_now_28 : decode cL_now 28 = .ok (.iconst 0, 1) := by decide +kernel
theorem dL_now_29 : decode cL_now 29 = .ok (.istore 4, 2) := by decide +kernel
theorem dL_now_31 : decode cL_now 31 = .ok (.iload 4, 2) := by decide +kernel
theorem dL_now_33 : decode cL_now 33 = .ok (.iload_n 1, 1) := by decide +kernel
theorem dL_now_34 : decode cL_now 34 = .ok (.if_icmp .ge 51, 3) := by decide +kernel
theorem dL_now_37 : decode cL_now 37 = .ok (.ldc2_w 193, 3) := by decide +kernel
theorem dL_now_40 : decode cL_now 40 = .ok (.lload_n 2, 1) := by decide +kernel
theorem dL_now_41 : decode cL_now 41 = .ok (.lmul, 1) := by decide +kernel
theorem dL_now_42 : decode cL_now 42 = .ok (.ldc2_w 195, 3) := by decide +kernel
theorem dL_now_45 : decode cL_now 45 = .ok (.lrem, 1) := by decide +kernel
theorem dL_now_46 : decode cL_now 46 = .ok (.ldc2_w 197, 3) := by decide +kernel
theorem dL_now_49 : decode cL_now 49 = .ok (.aload_n 0, 1) := by decide +kernel
theorem dL_now_50 : decode cL_now 50 = .ok (.iload 4, 2) := by decide +kernel
theorem dL_now_52 : decode cL_now 52 = .ok (.invokestatic 100, 3) := by decide +kernel
theorem dL_now_55 : decode cL_now 55 = .ok (.i2l, 1) := by decide +kernel
theorem dL_now_56 : decode cL_now 56 = .ok (.lmul, 1) := by decide +kernel
theorem dL_now_57 : decode cL_now 57 = .ok (.ladd, 1) := by decide +kernel
theorem dL_now_58 : decode cL_now 58 = .ok (.ldc2_w 199, 3) := by decide +kernel
theorem dL_now_61 : decode cL_now 61 = .ok (.aload_n 0, 1) := by decide +kernel
theorem dL_now_62 : decode cL_now 62 = .ok (.iload 4, 2) := by decide +kernel
theorem dL_now_64 : decode cL_now 64 = .ok (.invokestatic 103, 3) := by decide +kernel
theorem dL_now_67 : decode cL_now 67 = .ok (.i2l, 1) := by decide +kernel
theorem dL_now_68 : decode cL_now 68 = .ok (.lmul, 1) := by decide +kernel
theorem dL_now_69 : decode cL_now 69 = .ok (.ladd, 1) := by decide +kernel
theorem dL_now_70 : decode cL_now 70 = .ok (.aload_n 0, 1) := by decide +kernel
theorem dL_now_71 : decode cL_now 71 = .ok (.iload 4, 2) := by decide +kernel
theorem dL_now_73 : decode cL_now 73 = .ok (.invokestatic 106, 3) := by decide +kernel
theorem dL_now_76 : decode cL_now 76 = .ok (.i2l, 1) := by decide +kernel
theorem dL_now_77 : decode cL_now 77 = .ok (.ladd, 1) := by decide +kernel
theorem dL_now_78 : decode cL_now 78 = .ok (.lstore_n 2, 1) := by decide +kernel
theorem dL_now_79 : decode cL_now 79 = .ok (.iinc 4 1, 3) := by decide +kernel
theorem dL_now_82 : decode cL_now 82 = .ok (.goto (-51), 3) := by decide +kernel
theorem dL_now_85 : decode cL_now 85 = .ok (.iconst 0, 1) := by decide +kernel
theorem dL_now_86 : decode cL_now 86 = .ok (.istore 4, 2) := by decide +kernel
theorem dL_now_88 : decode cL_now 88 = .ok (.iload 4, 2) := by decide +kernel
theorem dL_now_90 : decode cL_now 90 = .ok (.bipush 8, 2) := by decide +kernel
theorem dL_now_92 : decode cL_now 92 = .ok (.if_icmp .ge 51, 3) := by decide +kernel
theorem dL_now_95 : decode cL_now 95 = .ok (.ldc2_w 201, 3) := by decide +kernel
theorem dL_now_98 : decode cL_now 98 = .ok (.lload_n 2, 1) := by decide +kernel
theorem dL_now_99 : decode cL_now 99 = .ok (.lmul, 1) := by decide +kernel
theorem dL_now_100 : decode cL_now 100 = .ok (.ldc2_w 203, 3) := by decide +kernel
theorem dL_now_103 : decode cL_now 103 = .ok (.lrem, 1) := by decide +kernel
theorem dL_now_104 : decode cL_now 104 = .ok (.ldc2_w 205, 3) := by decide +kernel
theorem dL_now_107 : decode cL_now 107 = .ok (.aload_n 0, 1) := by decide +kernel
theorem dL_now_108 : decode cL_now 108 = .ok (.iload 4, 2) := by decide +kernel
theorem dL_now_110 : decode cL_now 110 = .ok (.invokestatic 131, 3) := by decide +kernel
theorem dL_now_113 : decode cL_now 113 = .ok (.i2l, 1) := by decide +kernel
theorem dL_now_114 : decode cL_now 114 = .ok (.lmul, 1) := by decide +kernel
theorem dL_now_115 : decode cL_now 115 = .ok (.ladd, 1) := by decide +kernel
theorem dL_now_116 : decode cL_now 116 = .ok (.aload_n 0, 1) := by decide +kernel
theorem dL_now_117 : decode cL_now 117 = .ok (.iload 4, 2) := by decide +kernel
theorem dL_now_119 : decode cL_now 119 = .ok (.invokestatic 136, 3) := by decide +kernel
theorem dL_now_122 : decode cL_now 122 = .ok (.i2l, 1) := by decide +kernel
theorem dL_now_123 : decode cL_now 123 = .ok (.ladd, 1) := by decide +kernel
theorem dL_now_124 : decode cL_now 124 = .ok (.ldc2_w 207, 3) := by decide +kernel
theorem dL_now_127 : decode cL_now 127 = .ok (.aload_n 0, 1) := by decide +kernel
theorem dL_now_128 : decode cL_now 128 = .ok (.iload 4, 2) := by decide +kernel
theorem dL_now_130 : decode cL_now 130 = .ok (.invokestatic 133, 3) := by decide +kernel
theorem dL_now_133 : decode cL_now 133 = .ok (.i2l, 1) := by decide +kernel
theorem dL_now_134 : decode cL_now 134 = .ok (.lmul, 1) := by decide +kernel
theorem dL_now_135 : decode cL_now 135 = .ok (.ladd, 1) := by decide +kernel
theorem dL_now_136 : decode cL_now 136 = .ok (.lstore_n 2, 1) := by decide +kernel
theorem dL_now_137 : decode cL_now 137 = .ok (.iinc 4 1, 3) := by decide +kernel
theorem dL_now_140 : decode cL_now 140 = .ok (.goto (-52), 3) := by decide +kernel
theorem dL_now_143 : decode cL_now 143 = .ok (.lload_n 2, 1) := by decide +kernel
theorem dL_now_144 : decode cL_now 144 = .ok (.lreturn, 1) := by decide +kernel
theorem dL_alike_0 : decode cL_alike 0 = .ok (.aload_n 0, 1) := by decide +kernel
theorem dL_alike_1 : decode cL_alike 1 = .ok (.invokestatic 209, 3) := by decide +kernel
theorem dL_alike_4 : decode cL_alike 4 = .ok (.aload_n 1, 1) := by decide +kernel
theorem dL_alike_5 : decode cL_alike 5 = .ok (.invokestatic 209, 3) := by decide +kernel
theorem dL_alike_8 : decode cL_alike 8 = .ok (.lcmp, 1) := by decide +kernel
theorem dL_alike_9 : decode cL_alike 9 = .ok (.ifCond .ne 84, 3) := by decide +kernel
theorem dL_alike_12 : decode cL_alike 12 = .ok (.aload_n 0, 1) := by decide +kernel
theorem dL_alike_13 : decode cL_alike 13 = .ok (.invokevirtual 213, 3) := by decide +kernel
theorem dL_alike_16 : decode cL_alike 16 = .ok (.aload_n 1, 1) := by decide +kernel
theorem dL_alike_17 : decode cL_alike 17 = .ok (.invokevirtual 213, 3) := by decide +kernel
theorem dL_alike_20 : decode cL_alike 20 = .ok (.if_icmp .ne 73, 3) := by decide +kernel
theorem dL_alike_23 : decode cL_alike 23 = .ok (.aload_n 0, 1) := by decide +kernel
theorem dL_alike_24 : decode cL_alike 24 = .ok (.invokevirtual 216, 3) := by decide +kernel
theorem dL_alike_27 : decode cL_alike 27 = .ok (.aload_n 1, 1) := by decide +kernel
theorem dL_alike_28 : decode cL_alike 28 = .ok (.invokevirtual 216, 3) := by decide +kernel
theorem dL_alike_31 : decode cL_alike 31 = .ok (.if_icmp .ne 62, 3) := by decide +kernel
theorem dL_alike_34 : decode cL_alike 34 = .ok (.aload_n 0, 1) := by decide +kernel
theorem dL_alike_35 : decode cL_alike 35 = .ok (.invokevirtual 219, 3) := by decide +kernel
theorem dL_alike_38 : decode cL_alike 38 = .ok (.aload_n 1, 1) := by decide +kernel
theorem dL_alike_39 : decode cL_alike 39 = .ok (.invokevirtual 219, 3) := by decide +kernel
theorem dL_alike_42 : decode cL_alike 42 = .ok (.if_icmp .ne 51, 3) := by decide +kernel
theorem dL_alike_45 : decode cL_alike 45 = .ok (.aload_n 0, 1) := by decide +kernel
theorem dL_alike_46 : decode cL_alike 46 = .ok (.invokevirtual 222, 3) := by decide +kernel
theorem dL_alike_49 : decode cL_alike 49 = .ok (.aload_n 1, 1) := by decide +kernel
theorem dL_alike_50 : decode cL_alike 50 = .ok (.invokevirtual 222, 3) := by decide +kernel
theorem dL_alike_53 : decode cL_alike 53 = .ok (.if_icmp .ne 40, 3) := by decide +kernel
theorem dL_alike_56 : decode cL_alike 56 = .ok (.aload_n 0, 1) := by decide +kernel
theorem dL_alike_57 : decode cL_alike 57 = .ok (.invokevirtual 160, 3) := by decide +kernel
theorem dL_alike_60 : decode cL_alike 60 = .ok (.aload_n 1, 1) := by decide +kernel
theorem dL_alike_61 : decode cL_alike 61 = .ok (.invokevirtual 160, 3) := by decide +kernel
theorem dL_alike_64 : decode cL_alike 64 = .ok (.if_icmp .ne 29, 3) := by decide +kernel
theorem dL_alike_67 : decode cL_alike 67 = .ok (.aload_n 0, 1) := by decide +kernel
theorem dL_alike_68 : decode cL_alike 68 = .ok (.invokevirtual 225, 3) := by decide +kernel
theorem dL_alike_71 : decode cL_alike 71 = .ok (.aload_n 1, 1) := by decide +kernel
theorem dL_alike_72 : decode cL_alike 72 = .ok (.invokevirtual 225, 3) := by decide +kernel
theorem dL_alike_75 : decode cL_alike 75 = .ok (.if_icmp .ne 18, 3) := by decide +kernel
theorem dL_alike_78 : decode cL_alike 78 = .ok (.aload_n 0, 1) := by decide +kernel
theorem dL_alike_79 : decode cL_alike 79 = .ok (.invokestatic 157, 3) := by decide +kernel
theorem dL_alike_82 : decode cL_alike 82 = .ok (.aload_n 1, 1) := by decide +kernel
theorem dL_alike_83 : decode cL_alike 83 = .ok (.invokestatic 157, 3) := by decide +kernel
theorem dL_alike_86 : decode cL_alike 86 = .ok (.if_icmp .ne 7, 3) := by decide +kernel
theorem dL_alike_89 : decode cL_alike 89 = .ok (.iconst 1, 1) := by decide +kernel
theorem dL_alike_90 : decode cL_alike 90 = .ok (.goto 4, 3) := by decide +kernel
theorem dL_alike_93 : decode cL_alike 93 = .ok (.iconst 0, 1) := by decide +kernel
theorem dL_alike_94 : decode cL_alike 94 = .ok (.istore_n 2, 1) := by decide +kernel
theorem dL_alike_95 : decode cL_alike 95 = .ok (.iconst 0, 1) := by decide +kernel
theorem dL_alike_96 : decode cL_alike 96 = .ok (.istore_n 3, 1) := by decide +kernel
theorem dL_alike_97 : decode cL_alike 97 = .ok (.iload_n 3, 1) := by decide +kernel
theorem dL_alike_98 : decode cL_alike 98 = .ok (.iconst 4, 1) := by decide +kernel
theorem dL_alike_99 : decode cL_alike 99 = .ok (.if_icmp .ge 93, 3) := by decide +kernel
theorem dL_alike_102 : decode cL_alike 102 = .ok (.iload_n 2, 1) := by decide +kernel
theorem dL_alike_103 : decode cL_alike 103 = .ok (.ifCond .eq 81, 3) := by decide +kernel
theorem dL_alike_106 : decode cL_alike 106 = .ok (.aload_n 0, 1) := by decide +kernel
theorem dL_alike_107 : decode cL_alike 107 = .ok (.iconst 5, 1) := by decide +kernel
theorem dL_alike_108 : decode cL_alike 108 = .ok (.iload_n 3, 1) := by decide +kernel
theorem dL_alike_109 : decode cL_alike 109 = .ok (.imul, 1) := by decide +kernel
theorem dL_alike_110 : decode cL_alike 110 = .ok (.invokevirtual 148, 3) := by decide +kernel
theorem dL_alike_113 : decode cL_alike 113 = .ok (.aload_n 1, 1) := by decide +kernel
theorem dL_alike_114 : decode cL_alike 114 = .ok (.iconst 5, 1) := by decide +kernel
theorem dL_alike_115 : decode cL_alike 115 = .ok (.iload_n 3, 1) := by decide +kernel
theorem dL_alike_116 : decode cL_alike 116 = .ok (.imul, 1) := by decide +kernel
theorem dL_alike_117 : decode cL_alike 117 = .ok (.invokevirtual 148, 3) := by decide +kernel
theorem dL_alike_120 : decode cL_alike 120 = .ok (.if_icmp .ne 64, 3) := by decide +kernel
theorem dL_alike_123 : decode cL_alike 123 = .ok (.aload_n 0, 1) := by decide +kernel
theorem dL_alike_124 : decode cL_alike 124 = .ok (.iload_n 3, 1) := by decide +kernel
theorem dL_alike_125 : decode cL_alike 125 = .ok (.invokestatic 164, 3) := by decide +kernel
theorem dL_alike_128 : decode cL_alike 128 = .ok (.aload_n 1, 1) := by decide +kernel
theorem dL_alike_129 : decode cL_alike 129 = .ok (.iload_n 3, 1) := by decide +kernel
theorem dL_alike_130 : decode cL_alike 130 = .ok (.invokestatic 164, 3) := by decide +kernel
theorem dL_alike_133 : decode cL_alike 133 = .ok (.if_icmp .ne 51, 3) := by decide +kernel
theorem dL_alike_136 : decode cL_alike 136 = .ok (.aload_n 0, 1) := by decide +kernel
theorem dL_alike_137 : decode cL_alike 137 = .ok (.iconst 1, 1) := by decide +kernel
theorem dL_alike_138 : decode cL_alike 138 = .ok (.iload_n 3, 1) := by decide +kernel
theorem dL_alike_139 : decode cL_alike 139 = .ok (.ishl, 1) := by decide +kernel
theorem dL_alike_140 : decode cL_alike 140 = .ok (.bipush 16, 2) := by decide +kernel
theorem dL_alike_142 : decode cL_alike 142 = .ok (.invokestatic 138, 3) := by decide +kernel
theorem dL_alike_145 : decode cL_alike 145 = .ok (.aload_n 1, 1) := by decide +kernel
theorem dL_alike_146 : decode cL_alike 146 = .ok (.iconst 1, 1) := by decide +kernel
theorem dL_alike_147 : decode cL_alike 147 = .ok (.iload_n 3, 1) := by decide +kernel
theorem dL_alike_148 : decode cL_alike 148 = .ok (.ishl, 1) := by decide +kernel
theorem dL_alike_149 : decode cL_alike 149 = .ok (.bipush 16, 2) := by decide +kernel
theorem dL_alike_151 : decode cL_alike 151 = .ok (.invokestatic 138, 3) := by decide +kernel
theorem dL_alike_154 : decode cL_alike 154 = .ok (.if_icmp .ne 30, 3) := by decide +kernel
theorem dL_alike_157 : decode cL_alike 157 = .ok (.aload_n 0, 1) := by decide +kernel
theorem dL_alike_158 : decode cL_alike 158 = .ok (.iconst 3, 1) := by decide +kernel
theorem dL_alike_159 : decode cL_alike 159 = .ok (.iload_n 3, 1) := by decide +kernel
theorem dL_alike_160 : decode cL_alike 160 = .ok (.ishl, 1) := by decide +kernel
theorem dL_alike_161 : decode cL_alike 161 = .ok (.iload_n 3, 1) := by decide +kernel
theorem dL_alike_162 : decode cL_alike 162 = .ok (.iconst 1, 1) := by decide +kernel
theorem dL_alike_163 : decode cL_alike 163 = .ok (.iand, 1) := by decide +kernel
theorem dL_alike_164 : decode cL_alike 164 = .ok (.invokestatic 141, 3) := by decide +kernel
theorem dL_alike_167 : decode cL_alike 167 = .ok (.aload_n 1, 1) := by decide +kernel
theorem dL_alike_168 : decode cL_alike 168 = .ok (.iconst 3, 1) := by decide +kernel
theorem dL_alike_169 : decode cL_alike 169 = .ok (.iload_n 3, 1) := by decide +kernel
theorem dL_alike_170 : decode cL_alike 170 = .ok (.ishl, 1) := by decide +kernel
theorem dL_alike_171 : decode cL_alike 171 = .ok (.iload_n 3, 1) := by decide +kernel
theorem dL_alike_172 : decode cL_alike 172 = .ok (.iconst 1, 1) := by decide +kernel
theorem dL_alike_173 : decode cL_alike 173 = .ok (.iand, 1) := by decide +kernel
theorem dL_alike_174 : decode cL_alike 174 = .ok (.invokestatic 141, 3) := by decide +kernel
theorem dL_alike_177 : decode cL_alike 177 = .ok (.if_icmp .ne 7, 3) := by decide +kernel
theorem dL_alike_180 : decode cL_alike 180 = .ok (.iconst 1, 1) := by decide +kernel
theorem dL_alike_181 : decode cL_alike 181 = .ok (.goto 4, 3) := by decide +kernel
theorem dL_alike_184 : decode cL_alike 184 = .ok (.iconst 0, 1) := by decide +kernel
theorem dL_alike_185 : decode cL_alike 185 = .ok (.istore_n 2, 1) := by decide +kernel
theorem dL_alike_186 : decode cL_alike 186 = .ok (.iinc 3 1, 3) := by decide +kernel
theorem dL_alike_189 : decode cL_alike 189 = .ok (.goto (-92), 3) := by decide +kernel
theorem dL_alike_192 : decode cL_alike 192 = .ok (.iload_n 2, 1) := by decide +kernel
theorem dL_alike_193 : decode cL_alike 193 = .ok (.ireturn, 1) := by decide +kernel
theorem dL_odd_0 : decode cL_odd 0 = .ok (.iconst 0, 1) := by decide +kernel
theorem dL_odd_1 : decode cL_odd 1 = .ok (.istore_n 1, 1) := by decide +kernel
theorem dL_odd_2 : decode cL_odd 2 = .ok (.iconst 0, 1) := by decide +kernel
theorem dL_odd_3 : decode cL_odd 3 = .ok (.istore_n 2, 1) := by decide +kernel
theorem dL_odd_4 : decode cL_odd 4 = .ok (.iload_n 2, 1) := by decide +kernel
theorem dL_odd_5 : decode cL_odd 5 = .ok (.bipush 8, 2) := by decide +kernel
theorem dL_odd_7 : decode cL_odd 7 = .ok (.if_icmp .ge 17, 3) := by decide +kernel
theorem dL_odd_10 : decode cL_odd 10 = .ok (.iload_n 1, 1) := by decide +kernel
theorem dL_odd_11 : decode cL_odd 11 = .ok (.iload_n 0, 1) := by decide +kernel
theorem dL_odd_12 : decode cL_odd 12 = .ok (.iload_n 2, 1) := by decide +kernel
theorem dL_odd_13 : decode cL_odd 13 = .ok (.ishr, 1) := by decide +kernel
theorem dL_odd_14 : decode cL_odd 14 = .ok (.iconst 1, 1) := by decide +kernel
theorem dL_odd_15 : decode cL_odd 15 = .ok (.iand, 1) := by decide +kernel
theorem dL_odd_16 : decode cL_odd 16 = .ok (.ixor, 1) := by decide +kernel
theorem dL_odd_17 : decode cL_odd 17 = .ok (.istore_n 1, 1) := by decide +kernel
theorem dL_odd_18 : decode cL_odd 18 = .ok (.iinc 2 1, 3) := by decide +kernel
theorem dL_odd_21 : decode cL_odd 21 = .ok (.goto (-17), 3) := by decide +kernel
theorem dL_odd_24 : decode cL_odd 24 = .ok (.iload_n 1, 1) := by decide +kernel
theorem dL_odd_25 : decode cL_odd 25 = .ok (.ireturn, 1) := by decide +kernel
theorem dL_holds_0 : decode cL_holds 0 = .ok (.aload_n 0, 1) := by decide +kernel
theorem dL_holds_1 : decode cL_holds 1 = .ok (.iload_n 1, 1) := by decide +kernel
theorem dL_holds_2 : decode cL_holds 2 = .ok (.invokestatic 103, 3) := by decide +kernel
theorem dL_holds_5 : decode cL_holds 5 = .ok (.istore_n 3, 1) := by decide +kernel
theorem dL_holds_6 : decode cL_holds 6 = .ok (.aload_n 0, 1) := by decide +kernel
theorem dL_holds_7 : decode cL_holds 7 = .ok (.iload_n 1, 1) := by decide +kernel
theorem dL_holds_8 : decode cL_holds 8 = .ok (.invokestatic 106, 3) := by decide +kernel
theorem dL_holds_11 : decode cL_holds 11 = .ok (.istore 4, 2) := by decide +kernel
theorem dL_holds_13 : decode cL_holds 13 = .ok (.aload_n 0, 1) := by decide +kernel
theorem dL_holds_14 : decode cL_holds 14 = .ok (.iload_n 1, 1) := by decide +kernel
theorem dL_holds_15 : decode cL_holds 15 = .ok (.invokestatic 100, 3) := by decide +kernel
theorem dL_holds_18 : decode cL_holds 18 = .ok (.iconst 1, 1) := by decide +kernel
theorem dL_holds_19 : decode cL_holds 19 = .ok (.if_icmp .ne 22, 3) := by decide +kernel
theorem dL_holds_22 : decode cL_holds 22 = .ok (.iload_n 3, 1) := by decide +kernel
theorem dL_holds_23 : decode cL_holds 23 = .ok (.iload_n 2, 1) := by decide +kernel
theorem dL_holds_24 : decode cL_holds 24 = .ok (.iand, 1) := by decide +kernel
theorem dL_holds_25 : decode cL_holds 25 = .ok (.invokestatic 228, 3) := by decide +kernel
theorem dL_holds_28 : decode cL_holds 28 = .ok (.iload 4, 2) := by decide +kernel
theorem dL_holds_30 : decode cL_holds 30 = .ok (.if_icmp .ne 7, 3) := by decide +kernel
theorem dL_holds_33 : decode cL_holds 33 = .ok (.iconst 1, 1) := by decide +kernel
theorem dL_holds_34 : decode cL_holds 34 = .ok (.goto 25, 3) := by decide +kernel
theorem dL_holds_37 : decode cL_holds 37 = .ok (.iconst 0, 1) := by decide +kernel
theorem dL_holds_38 : decode cL_holds 38 = .ok (.goto 21, 3) := by decide +kernel
theorem dL_holds_41 : decode cL_holds 41 = .ok (.iload_n 3, 1) := by decide +kernel
theorem dL_holds_42 : decode cL_holds 42 = .ok (.iload_n 2, 1) := by decide +kernel
theorem dL_holds_43 : decode cL_holds 43 = .ok (.iand, 1) := by decide +kernel
theorem dL_holds_44 : decode cL_holds 44 = .ok (.iload 4, 2) := by decide +kernel
theorem dL_holds_46 : decode cL_holds 46 = .ok (.iload_n 2, 1) := by decide +kernel
theorem dL_holds_47 : decode cL_holds 47 = .ok (.iconst (-1), 1) := by decide +kernel
theorem dL_holds_48 : decode cL_holds 48 = .ok (.ixor, 1) := by decide +kernel
theorem dL_holds_49 : decode cL_holds 49 = .ok (.iand, 1) := by decide +kernel
theorem dL_holds_50 : decode cL_holds 50 = .ok (.ior, 1) := by decide +kernel
theorem dL_holds_51 : decode cL_holds 51 = .ok (.ifCond .eq 7, 3) := by decide +kernel
theorem dL_holds_54 : decode cL_holds 54 = .ok (.iconst 1, 1) := by decide +kernel
theorem dL_holds_55 : decode cL_holds 55 = .ok (.goto 4, 3) := by decide +kernel
theorem dL_holds_58 : decode cL_holds 58 = .ok (.iconst 0, 1) := by decide +kernel
theorem dL_holds_59 : decode cL_holds 59 = .ok (.ireturn, 1) := by decide +kernel
theorem dL_built_0 : decode cL_built 0 = .ok (.aload_n 0, 1) := by decide +kernel
theorem dL_built_1 : decode cL_built 1 = .ok (.invokevirtual 92, 3) := by decide +kernel
theorem dL_built_4 : decode cL_built 4 = .ok (.istore_n 1, 1) := by decide +kernel
theorem dL_built_5 : decode cL_built 5 = .ok (.aload_n 0, 1) := by decide +kernel
theorem dL_built_6 : decode cL_built 6 = .ok (.invokevirtual 219, 3) := by decide +kernel
theorem dL_built_9 : decode cL_built 9 = .ok (.istore_n 2, 1) := by decide +kernel
theorem dL_built_10 : decode cL_built 10 = .ok (.aload_n 0, 1) := by decide +kernel
theorem dL_built_11 : decode cL_built 11 = .ok (.invokevirtual 222, 3) := by decide +kernel
theorem dL_built_14 : decode cL_built 14 = .ok (.istore_n 3, 1) := by decide +kernel
theorem dL_built_15 : decode cL_built 15 = .ok (.aload_n 0, 1) := by decide +kernel
theorem dL_built_16 : decode cL_built 16 = .ok (.invokevirtual 160, 3) := by decide +kernel
theorem dL_built_19 : decode cL_built 19 = .ok (.istore 4, 2) := by decide +kernel
theorem dL_built_21 : decode cL_built 21 = .ok (.iconst 0, 1) := by decide +kernel
theorem dL_built_22 : decode cL_built 22 = .ok (.istore 5, 2) := by decide +kernel
theorem dL_built_24 : decode cL_built 24 = .ok (.iconst 0, 1) := by decide +kernel
theorem dL_built_25 : decode cL_built 25 = .ok (.istore 6, 2) := by decide +kernel
theorem dL_built_27 : decode cL_built 27 = .ok (.iconst 0, 1) := by decide +kernel
theorem dL_built_28 : decode cL_built 28 = .ok (.istore 7, 2) := by decide +kernel
theorem dL_built_30 : decode cL_built 30 = .ok (.iconst 1, 1) := by decide +kernel
theorem dL_built_31 : decode cL_built 31 = .ok (.istore 8, 2) := by decide +kernel
theorem dL_built_33 : decode cL_built 33 = .ok (.bipush 24, 2) := by decide +kernel
theorem dL_built_35 : decode cL_built 35 = .ok (.newarray .int, 2) := by decide +kernel
theorem dL_built_37 : decode cL_built 37 = .ok (.astore 9, 2) := by decide +kernel
theorem dL_built_39 : decode cL_built 39 = .ok (.bipush 24, 2) := by decide +kernel
theorem dL_built_41 : decode cL_built 41 = .ok (.newarray .int, 2) := by decide +kernel
theorem dL_built_43 : decode cL_built 43 = .ok (.astore 10, 2) := by decide +kernel
theorem dL_built_45 : decode cL_built 45 = .ok (.bipush 24, 2) := by decide +kernel
theorem dL_built_47 : decode cL_built 47 = .ok (.newarray .int, 2) := by decide +kernel
theorem dL_built_49 : decode cL_built 49 = .ok (.astore 11, 2) := by decide +kernel
theorem dL_built_51 : decode cL_built 51 = .ok (.bipush 8, 2) := by decide +kernel
theorem dL_built_53 : decode cL_built 53 = .ok (.newarray .int, 2) := by decide +kernel
theorem dL_built_55 : decode cL_built 55 = .ok (.astore 12, 2) := by decide +kernel
theorem dL_built_57 : decode cL_built 57 = .ok (.iconst 0, 1) := by decide +kernel
theorem dL_built_58 : decode cL_built 58 = .ok (.istore 13, 2) := by decide +kernel
theorem dL_built_60 : decode cL_built 60 = .ok (.iload 13, 2) := by decide +kernel
theorem dL_built_62 : decode cL_built 62 = .ok (.iload_n 1, 1) := by decide +kernel
theorem dL_built_63 : decode cL_built 63 = .ok (.if_icmp .ge 42, 3) := by decide +kernel
theorem dL_built_66 : decode cL_built 66 = .ok (.aload 9, 2) := by decide +kernel
theorem dL_built_68 : decode cL_built 68 = .ok (.iload 13, 2) := by decide +kernel
theorem dL_built_70 : decode cL_built 70 = .ok (.aload_n 0, 1) := by decide +kernel
theorem dL_built_71 : decode cL_built 71 = .ok (.iload 13, 2) := by decide +kernel
theorem dL_built_73 : decode cL_built 73 = .ok (.invokestatic 100, 3) := by decide +kernel
theorem dL_built_76 : decode cL_built 76 = .ok (.iastore, 1) := by decide +kernel
theorem dL_built_77 : decode cL_built 77 = .ok (.aload 10, 2) := by decide +kernel
theorem dL_built_79 : decode cL_built 79 = .ok (.iload 13, 2) := by decide +kernel
theorem dL_built_81 : decode cL_built 81 = .ok (.aload_n 0, 1) := by decide +kernel
theorem dL_built_82 : decode cL_built 82 = .ok (.iload 13, 2) := by decide +kernel
theorem dL_built_84 : decode cL_built 84 = .ok (.invokestatic 103, 3) := by decide +kernel
theorem dL_built_87 : decode cL_built 87 = .ok (.iastore, 1) := by decide +kernel
theorem dL_built_88 : decode cL_built 88 = .ok (.aload 11, 2) := by decide +kernel
theorem dL_built_90 : decode cL_built 90 = .ok (.iload 13, 2) := by decide +kernel
theorem dL_built_92 : decode cL_built 92 = .ok (.aload_n 0, 1) := by decide +kernel
theorem dL_built_93 : decode cL_built 93 = .ok (.iload 13, 2) := by decide +kernel
theorem dL_built_95 : decode cL_built 95 = .ok (.invokestatic 106, 3) := by decide +kernel
theorem dL_built_98 : decode cL_built 98 = .ok (.iastore, 1) := by decide +kernel
theorem dL_built_99 : decode cL_built 99 = .ok (.iinc 13 1, 3) := by decide +kernel
theorem dL_built_102 : decode cL_built 102 = .ok (.goto (-42), 3) := by decide +kernel
theorem dL_built_105 : decode cL_built 105 = .ok (.iconst 0, 1) := by decide +kernel
theorem dL_built_106 : decode cL_built 106 = .ok (.istore 13, 2) := by decide +kernel
theorem dL_built_108 : decode cL_built 108 = .ok (.iload 13, 2) := by decide +kernel
theorem dL_built_110 : decode cL_built 110 = .ok (.iload_n 3, 1) := by decide +kernel
theorem dL_built_111 : decode cL_built 111 = .ok (.if_icmp .ge 25, 3) := by decide +kernel
theorem dL_built_114 : decode cL_built 114 = .ok (.iload 4, 2) := by decide +kernel
theorem dL_built_116 : decode cL_built 116 = .ok (.ifCond .eq 20, 3) := by decide +kernel
theorem dL_built_119 : decode cL_built 119 = .ok (.aload 12, 2) := by decide +kernel
theorem dL_built_121 : decode cL_built 121 = .ok (.iload 13, 2) := by decide +kernel
theorem dL_built_123 : decode cL_built 123 = .ok (.aload_n 0, 1) := by decide +kernel
theorem dL_built_124 : decode cL_built 124 = .ok (.iload 13, 2) := by decide +kernel
theorem dL_built_126 : decode cL_built 126 = .ok (.invokestatic 164, 3) := by decide +kernel
theorem dL_built_129 : decode cL_built 129 = .ok (.iastore, 1) := by decide +kernel
theorem dL_built_130 : decode cL_built 130 = .ok (.iinc 13 1, 3) := by decide +kernel
theorem dL_built_133 : decode cL_built 133 = .ok (.goto (-25), 3) := by decide +kernel
theorem dL_built_136 : decode cL_built 136 = .ok (.iconst 0, 1) := by decide +kernel
theorem dL_built_137 : decode cL_built 137 = .ok (.istore 13, 2) := by decide +kernel
theorem dL_built_139 : decode cL_built 139 = .ok (.iload 13, 2) := by decide +kernel
theorem dL_built_141 : decode cL_built 141 = .ok (.sipush 256, 3) := by decide +kernel
theorem dL_built_144 : decode cL_built 144 = .ok (.if_icmp .ge 330, 3) := by decide +kernel
theorem dL_built_147 : decode cL_built 147 = .ok (.iload 8, 2) := by decide +kernel
theorem dL_built_149 : decode cL_built 149 = .ok (.ifCond .eq 325, 3) := by decide +kernel
theorem dL_built_152 : decode cL_built 152 = .ok (.iconst 1, 1) := by decide +kernel
theorem dL_built_153 : decode cL_built 153 = .ok (.istore 14, 2) := by decide +kernel
theorem dL_built_155 : decode cL_built 155 = .ok (.iconst 1, 1) := by decide +kernel
theorem dL_built_156 : decode cL_built 156 = .ok (.istore 15, 2) := by decide +kernel
theorem dL_built_158 : decode cL_built 158 = .ok (.iconst 1, 1) := by decide +kernel
theorem dL_built_159 : decode cL_built 159 = .ok (.istore 16, 2) := by decide +kernel
theorem dL_built_161 : decode cL_built 161 = .ok (.iconst 0, 1) := by decide +kernel
theorem dL_built_162 : decode cL_built 162 = .ok (.istore 17, 2) := by decide +kernel
theorem dL_built_164 : decode cL_built 164 = .ok (.iload 17, 2) := by decide +kernel
theorem dL_built_166 : decode cL_built 166 = .ok (.iload_n 1, 1) := by decide +kernel
theorem dL_built_167 : decode cL_built 167 = .ok (.if_icmp .ge 148, 3) := by decide +kernel
theorem dL_built_170 : decode cL_built 170 = .ok (.aload 9, 2) := by decide +kernel
theorem dL_built_172 : decode cL_built 172 = .ok (.iload 17, 2) := by decide +kernel
theorem dL_built_174 : decode cL_built 174 = .ok (.iaload, 1) := by decide +kernel
theorem dL_built_175 : decode cL_built 175 = .ok (.iconst 1, 1) := by decide +kernel
theorem dL_built_176 : decode cL_built 176 = .ok (.if_icmp .ne 30, 3) := by decide +kernel
theorem dL_built_179 : decode cL_built 179 = .ok (.aload 10, 2) := by decide +kernel
theorem dL_built_181 : decode cL_built 181 = .ok (.iload 17, 2) := by decide +kernel
theorem dL_built_183 : decode cL_built 183 = .ok (.iaload, 1) := by decide +kernel
theorem dL_built_184 : decode cL_built 184 = .ok (.iload 13, 2) := by decide +kernel
theorem dL_built_186 : decode cL_built 186 = .ok (.iand, 1) := by decide +kernel
theorem dL_built_187 : decode cL_built 187 = .ok (.invokestatic 228, 3) := by decide +kernel
theorem dL_built_190 : decode cL_built 190 = .ok (.aload 11, 2) := by decide +kernel
theorem dL_built_192 : decode cL_built 192 = .ok (.iload 17, 2) := by decide +kernel
theorem dL_built_194 : decode cL_built 194 = .ok (.iaload, 1) := by decide +kernel
theorem dL_built_195 : decode cL_built 195 = .ok (.if_icmp .ne 7, 3) := by decide +kernel
theorem dL_built_198 : decode cL_built 198 = .ok (.iconst 1, 1) := by decide +kernel
theorem dL_built_199 : decode cL_built 199 = .ok (.goto 34, 3) := by decide +kernel
theorem dL_built_202 : decode cL_built 202 = .ok (.iconst 0, 1) := by decide +kernel
theorem dL_built_203 : decode cL_built 203 = .ok (.goto 30, 3) := by decide +kernel
theorem dL_built_206 : decode cL_built 206 = .ok (.aload 10, 2) := by decide +kernel
theorem dL_built_208 : decode cL_built 208 = .ok (.iload 17, 2) := by decide +kernel
theorem dL_built_210 : decode cL_built 210 = .ok (.iaload, 1) := by decide +kernel
theorem dL_built_211 : decode cL_built 211 = .ok (.iload 13, 2) := by decide +kernel
theorem dL_built_213 : decode cL_built 213 = .ok (.iand, 1) := by decide +kernel
theorem dL_built_214 : decode cL_built 214 = .ok (.aload 11, 2) := by decide +kernel
theorem dL_built_216 : decode cL_built 216 = .ok (.iload 17, 2) := by decide +kernel
theorem dL_built_218 : decode cL_built 218 = .ok (.iaload, 1) := by decide +kernel
theorem dL_built_219 : decode cL_built 219 = .ok (.iload 13, 2) := by decide +kernel
theorem dL_built_221 : decode cL_built 221 = .ok (.iconst (-1), 1) := by decide +kernel
theorem dL_built_222 : decode cL_built 222 = .ok (.ixor, 1) := by decide +kernel
theorem dL_built_223 : decode cL_built 223 = .ok (.iand, 1) := by decide +kernel
theorem dL_built_224 : decode cL_built 224 = .ok (.ior, 1) := by decide +kernel
theorem dL_built_225 : decode cL_built 225 = .ok (.ifCond .eq 7, 3) := by decide +kernel
theorem dL_built_228 : decode cL_built 228 = .ok (.iconst 1, 1) := by decide +kernel
theorem dL_built_229 : decode cL_built 229 = .ok (.goto 4, 3) := by decide +kernel
theorem dL_built_232 : decode cL_built 232 = .ok (.iconst 0, 1) := by decide +kernel
theorem dL_built_233 : decode cL_built 233 = .ok (.istore 18, 2) := by decide +kernel
theorem dL_built_235 : decode cL_built 235 = .ok (.iload 14, 2) := by decide +kernel
theorem dL_built_237 : decode cL_built 237 = .ok (.ifCond .eq 12, 3) := by decide +kernel
theorem dL_built_240 : decode cL_built 240 = .ok (.iload 18, 2) := by decide +kernel
theorem dL_built_242 : decode cL_built 242 = .ok (.ifCond .eq 7, 3) := by decide +kernel
theorem dL_built_245 : decode cL_built 245 = .ok (.iconst 1, 1) := by decide +kernel
theorem dL_built_246 : decode cL_built 246 = .ok (.goto 4, 3) := by decide +kernel
theorem dL_built_249 : decode cL_built 249 = .ok (.iconst 0, 1) := by decide +kernel
theorem dL_built_250 : decode cL_built 250 = .ok (.istore 14, 2) := by decide +kernel
theorem dL_built_252 : decode cL_built 252 = .ok (.iload 15, 2) := by decide +kernel
theorem dL_built_254 : decode cL_built 254 = .ok (.ifCond .eq 20, 3) := by decide +kernel
theorem dL_built_257 : decode cL_built 257 = .ok (.iload 18, 2) := by decide +kernel
theorem dL_built_259 : decode cL_built 259 = .ok (.ifCond .ne 11, 3) := by decide +kernel
theorem dL_built_262 : decode cL_built 262 = .ok (.aload 9, 2) := by decide +kernel
theorem dL_built_264 : decode cL_built 264 = .ok (.iload 17, 2) := by decide +kernel
theorem dL_built_266 : decode cL_built 266 = .ok (.iaload, 1) := by decide +kernel
theorem dL_built_267 : decode cL_built 267 = .ok (.ifCond .ne 7, 3) := by decide +kernel
theorem dL_built_270 : decode cL_built 270 = .ok (.iconst 1, 1) := by decide +kernel
theorem dL_built_271 : decode cL_built 271 = .ok (.goto 4, 3) := by decide +kernel
theorem dL_built_274 : decode cL_built 274 = .ok (.iconst 0, 1) := by decide +kernel
theorem dL_built_275 : decode cL_built 275 = .ok (.istore 15, 2) := by decide +kernel
theorem dL_built_277 : decode cL_built 277 = .ok (.iload 16, 2) := by decide +kernel
theorem dL_built_279 : decode cL_built 279 = .ok (.ifCond .eq 27, 3) := by decide +kernel
theorem dL_built_282 : decode cL_built 282 = .ok (.iload 18, 2) := by decide +kernel
theorem dL_built_284 : decode cL_built 284 = .ok (.ifCond .ne 18, 3) := by decide +kernel
theorem dL_built_287 : decode cL_built 287 = .ok (.iload_n 2, 1) := by decide +kernel
theorem dL_built_288 : decode cL_built 288 = .ok (.bipush (-9), 2) := by decide +kernel
theorem dL_built_290 : decode cL_built 290 = .ok (.if_icmp .eq 12, 3) := by decide +kernel
theorem dL_built_293 : decode cL_built 293 = .ok (.iload_n 2, 1) := by decide +kernel
theorem dL_built_294 : decode cL_built 294 = .ok (.iload 17, 2) := by decide +kernel
theorem dL_built_296 : decode cL_built 296 = .ok (.ishr, 1) := by decide +kernel
theorem dL_built_297 : decode cL_built 297 = .ok (.iconst 1, 1) := by decide +kernel
theorem dL_built_298 : decode cL_built 298 = .ok (.iand, 1) := by decide +kernel
theorem dL_built_299 : decode cL_built 299 = .ok (.ifCond .ne 7, 3) := by decide +kernel
theorem dL_built_302 : decode cL_built 302 = .ok (.iconst 1, 1) := by decide +kernel
theorem dL_built_303 : decode cL_built 303 = .ok (.goto 4, 3) := by decide +kernel
theorem dL_built_306 : decode cL_built 306 = .ok (.iconst 0, 1) := by decide +kernel
theorem dL_built_307 : decode cL_built 307 = .ok (.istore 16, 2) := by decide +kernel
theorem dL_built_309 : decode cL_built 309 = .ok (.iinc 17 1, 3) := by decide +kernel
theorem dL_built_312 : decode cL_built 312 = .ok (.goto (-148), 3) := by decide +kernel
theorem dL_built_315 : decode cL_built 315 = .ok (.iload 14, 2) := by decide +kernel
theorem dL_built_317 : decode cL_built 317 = .ok (.ifCond .eq 14, 3) := by decide +kernel
theorem dL_built_320 : decode cL_built 320 = .ok (.aload_n 0, 1) := by decide +kernel
theorem dL_built_321 : decode cL_built 321 = .ok (.iload 5, 2) := by decide +kernel
theorem dL_built_323 : decode cL_built 323 = .ok (.invokevirtual 148, 3) := by decide +kernel
theorem dL_built_326 : decode cL_built 326 = .ok (.iload 13, 2) := by decide +kernel
theorem dL_built_328 : decode cL_built 328 = .ok (.if_icmp .ne 7, 3) := by decide +kernel
theorem dL_built_331 : decode cL_built 331 = .ok (.iconst 1, 1) := by decide +kernel
theorem dL_built_332 : decode cL_built 332 = .ok (.goto 4, 3) := by decide +kernel
theorem dL_built_335 : decode cL_built 335 = .ok (.iconst 0, 1) := by decide +kernel
theorem dL_built_336 : decode cL_built 336 = .ok (.istore 8, 2) := by decide +kernel
theorem dL_built_338 : decode cL_built 338 = .ok (.iload 5, 2) := by decide +kernel
theorem dL_built_340 : decode cL_built 340 = .ok (.iload 14, 2) := by decide +kernel
theorem dL_built_342 : decode cL_built 342 = .ok (.ifCond .eq 7, 3) := by decide +kernel
theorem dL_built_345 : decode cL_built 345 = .ok (.iconst 1, 1) := by decide +kernel
theorem dL_built_346 : decode cL_built 346 = .ok (.goto 4, 3) := by decide +kernel
theorem dL_built_349 : decode cL_built 349 = .ok (.iconst 0, 1) := by decide +kernel
theorem dL_built_350 : decode cL_built 350 = .ok (.iadd, 1) := by decide +kernel
theorem dL_built_351 : decode cL_built 351 = .ok (.istore 5, 2) := by decide +kernel
theorem dL_built_353 : decode cL_built 353 = .ok (.iload 6, 2) := by decide +kernel
theorem dL_built_355 : decode cL_built 355 = .ok (.iload 15, 2) := by decide +kernel
theorem dL_built_357 : decode cL_built 357 = .ok (.ifCond .eq 7, 3) := by decide +kernel
theorem dL_built_360 : decode cL_built 360 = .ok (.iconst 1, 1) := by decide +kernel
theorem dL_built_361 : decode cL_built 361 = .ok (.goto 4, 3) := by decide +kernel
theorem dL_built_364 : decode cL_built 364 = .ok (.iconst 0, 1) := by decide +kernel
theorem dL_built_365 : decode cL_built 365 = .ok (.iadd, 1) := by decide +kernel
theorem dL_built_366 : decode cL_built 366 = .ok (.istore 6, 2) := by decide +kernel
theorem dL_built_368 : decode cL_built 368 = .ok (.iload 7, 2) := by decide +kernel
theorem dL_built_370 : decode cL_built 370 = .ok (.iload 16, 2) := by decide +kernel
theorem dL_built_372 : decode cL_built 372 = .ok (.ifCond .eq 7, 3) := by decide +kernel
theorem dL_built_375 : decode cL_built 375 = .ok (.iconst 1, 1) := by decide +kernel
theorem dL_built_376 : decode cL_built 376 = .ok (.goto 4, 3) := by decide +kernel
theorem dL_built_379 : decode cL_built 379 = .ok (.iconst 0, 1) := by decide +kernel
theorem dL_built_380 : decode cL_built 380 = .ok (.iadd, 1) := by decide +kernel
theorem dL_built_381 : decode cL_built 381 = .ok (.istore 7, 2) := by decide +kernel
theorem dL_built_383 : decode cL_built 383 = .ok (.iconst 1, 1) := by decide +kernel
theorem dL_built_384 : decode cL_built 384 = .ok (.istore 17, 2) := by decide +kernel
theorem dL_built_386 : decode cL_built 386 = .ok (.iconst 0, 1) := by decide +kernel
theorem dL_built_387 : decode cL_built 387 = .ok (.istore 18, 2) := by decide +kernel
theorem dL_built_389 : decode cL_built 389 = .ok (.iload 18, 2) := by decide +kernel
theorem dL_built_391 : decode cL_built 391 = .ok (.iload_n 3, 1) := by decide +kernel
theorem dL_built_392 : decode cL_built 392 = .ok (.if_icmp .ge 52, 3) := by decide +kernel
theorem dL_built_395 : decode cL_built 395 = .ok (.iload 4, 2) := by decide +kernel
theorem dL_built_397 : decode cL_built 397 = .ok (.ifCond .eq 47, 3) := by decide +kernel
theorem dL_built_400 : decode cL_built 400 = .ok (.iload 17, 2) := by decide +kernel
theorem dL_built_402 : decode cL_built 402 = .ok (.ifCond .eq 33, 3) := by decide +kernel
theorem dL_built_405 : decode cL_built 405 = .ok (.aload 12, 2) := by decide +kernel
theorem dL_built_407 : decode cL_built 407 = .ok (.iload 18, 2) := by decide +kernel
theorem dL_built_409 : decode cL_built 409 = .ok (.iaload, 1) := by decide +kernel
theorem dL_built_410 : decode cL_built 410 = .ok (.sipush 255, 3) := by decide +kernel
theorem dL_built_413 : decode cL_built 413 = .ok (.iand, 1) := by decide +kernel
theorem dL_built_414 : decode cL_built 414 = .ok (.iload 13, 2) := by decide +kernel
theorem dL_built_416 : decode cL_built 416 = .ok (.iand, 1) := by decide +kernel
theorem dL_built_417 : decode cL_built 417 = .ok (.invokestatic 228, 3) := by decide +kernel
theorem dL_built_420 : decode cL_built 420 = .ok (.aload 12, 2) := by decide +kernel
theorem dL_built_422 : decode cL_built 422 = .ok (.iload 18, 2) := by decide +kernel
theorem dL_built_424 : decode cL_built 424 = .ok (.iaload, 1) := by decide +kernel
theorem dL_built_425 : decode cL_built 425 = .ok (.bipush 8, 2) := by decide +kernel
theorem dL_built_427 : decode cL_built 427 = .ok (.ishr, 1) := by decide +kernel
theorem dL_built_428 : decode cL_built 428 = .ok (.if_icmp .ne 7, 3) := by decide +kernel
theorem dL_built_431 : decode cL_built 431 = .ok (.iconst 1, 1) := by decide +kernel
theorem dL_built_432 : decode cL_built 432 = .ok (.goto 4, 3) := by decide +kernel
theorem dL_built_435 : decode cL_built 435 = .ok (.iconst 0, 1) := by decide +kernel
theorem dL_built_436 : decode cL_built 436 = .ok (.istore 17, 2) := by decide +kernel
theorem dL_built_438 : decode cL_built 438 = .ok (.iinc 18 1, 3) := by decide +kernel
theorem dL_built_441 : decode cL_built 441 = .ok (.goto (-52), 3) := by decide +kernel
theorem dL_built_444 : decode cL_built 444 = .ok (.iload 8, 2) := by decide +kernel
theorem dL_built_446 : decode cL_built 446 = .ok (.ifCond .eq 19, 3) := by decide +kernel
theorem dL_built_449 : decode cL_built 449 = .ok (.iload 4, 2) := by decide +kernel
theorem dL_built_451 : decode cL_built 451 = .ok (.ifCond .eq 10, 3) := by decide +kernel
theorem dL_built_454 : decode cL_built 454 = .ok (.iload 17, 2) := by decide +kernel
theorem dL_built_456 : decode cL_built 456 = .ok (.iload 15, 2) := by decide +kernel
theorem dL_built_458 : decode cL_built 458 = .ok (.if_icmp .ne 7, 3) := by decide +kernel
theorem dL_built_461 : decode cL_built 461 = .ok (.iconst 1, 1) := by decide +kernel
theorem dL_built_462 : decode cL_built 462 = .ok (.goto 4, 3) := by decide +kernel
theorem dL_built_465 : decode cL_built 465 = .ok (.iconst 0, 1) := by decide +kernel
theorem dL_built_466 : decode cL_built 466 = .ok (.istore 8, 2) := by decide +kernel
theorem dL_built_468 : decode cL_built 468 = .ok (.iinc 13 1, 3) := by decide +kernel
theorem dL_built_471 : decode cL_built 471 = .ok (.goto (-332), 3) := by decide +kernel
theorem dL_built_474 : decode cL_built 474 = .ok (.iload 8, 2) := by decide +kernel
theorem dL_built_476 : decode cL_built 476 = .ok (.ifCond .eq 92, 3) := by decide +kernel
theorem dL_built_479 : decode cL_built 479 = .ok (.aload_n 0, 1) := by decide +kernel
theorem dL_built_480 : decode cL_built 480 = .ok (.invokevirtual 216, 3) := by decide +kernel
theorem dL_built_483 : decode cL_built 483 = .ok (.iload 5, 2) := by decide +kernel
theorem dL_built_485 : decode cL_built 485 = .ok (.if_icmp .ne 83, 3) := by decide +kernel
theorem dL_built_488 : decode cL_built 488 = .ok (.aload_n 0, 1) := by decide +kernel
theorem dL_built_489 : decode cL_built 489 = .ok (.iload 5, 2) := by decide +kernel
theorem dL_built_491 : decode cL_built 491 = .ok (.invokevirtual 148, 3) := by decide +kernel
theorem dL_built_494 : decode cL_built 494 = .ok (.bipush (-9), 2) := by decide +kernel
theorem dL_built_496 : decode cL_built 496 = .ok (.if_icmp .ne 72, 3) := by decide +kernel
theorem dL_built_499 : decode cL_built 499 = .ok (.iload 4, 2) := by decide +kernel
theorem dL_built_501 : decode cL_built 501 = .ok (.iload 6, 2) := by decide +kernel
theorem dL_built_503 : decode cL_built 503 = .ok (.ifCond .le 7, 3) := by decide +kernel
theorem dL_built_506 : decode cL_built 506 = .ok (.iconst 1, 1) := by decide +kernel
theorem dL_built_507 : decode cL_built 507 = .ok (.goto 4, 3) := by decide +kernel
theorem dL_built_510 : decode cL_built 510 = .ok (.iconst 0, 1) := by decide +kernel
theorem dL_built_511 : decode cL_built 511 = .ok (.if_icmp .ne 57, 3) := by decide +kernel
theorem dL_built_514 : decode cL_built 514 = .ok (.iload 4, 2) := by decide +kernel
theorem dL_built_516 : decode cL_built 516 = .ok (.ifCond .eq 13, 3) := by decide +kernel
theorem dL_built_519 : decode cL_built 519 = .ok (.iload 6, 2) := by decide +kernel
theorem dL_built_521 : decode cL_built 521 = .ok (.sipush 256, 3) := by decide +kernel
theorem dL_built_524 : decode cL_built 524 = .ok (.iload_n 3, 1) := by decide +kernel
theorem dL_built_525 : decode cL_built 525 = .ok (.ishr, 1) := by decide +kernel
theorem dL_built_526 : decode cL_built 526 = .ok (.if_icmp .ne 42, 3) := by decide +kernel
theorem dL_built_529 : decode cL_built 529 = .ok (.iload_n 2, 1) := by decide +kernel
theorem dL_built_530 : decode cL_built 530 = .ok (.bipush (-9), 2) := by decide +kernel
theorem dL_built_532 : decode cL_built 532 = .ok (.if_icmp .ne 7, 3) := by decide +kernel
theorem dL_built_535 : decode cL_built 535 = .ok (.iconst 1, 1) := by decide +kernel
theorem dL_built_536 : decode cL_built 536 = .ok (.goto 4, 3) := by decide +kernel
theorem dL_built_539 : decode cL_built 539 = .ok (.iconst 0, 1) := by decide +kernel
theorem dL_built_540 : decode cL_built 540 = .ok (.iload 5, 2) := by decide +kernel
theorem dL_built_542 : decode cL_built 542 = .ok (.ifCond .le 7, 3) := by decide +kernel
theorem dL_built_545 : decode cL_built 545 = .ok (.iconst 1, 1) := by decide +kernel
theorem dL_built_546 : decode cL_built 546 = .ok (.goto 4, 3) := by decide +kernel
theorem dL_built_549 : decode cL_built 549 = .ok (.iconst 0, 1) := by decide +kernel
theorem dL_built_550 : decode cL_built 550 = .ok (.if_icmp .ne 18, 3) := by decide +kernel
theorem dL_built_553 : decode cL_built 553 = .ok (.iload_n 2, 1) := by decide +kernel
theorem dL_built_554 : decode cL_built 554 = .ok (.bipush (-9), 2) := by decide +kernel
theorem dL_built_556 : decode cL_built 556 = .ok (.if_icmp .eq 8, 3) := by decide +kernel
theorem dL_built_559 : decode cL_built 559 = .ok (.iload 7, 2) := by decide +kernel
theorem dL_built_561 : decode cL_built 561 = .ok (.ifCond .ne 7, 3) := by decide +kernel
theorem dL_built_564 : decode cL_built 564 = .ok (.iconst 1, 1) := by decide +kernel
theorem dL_built_565 : decode cL_built 565 = .ok (.goto 4, 3) := by decide +kernel
theorem dL_built_568 : decode cL_built 568 = .ok (.iconst 0, 1) := by decide +kernel
theorem dL_built_569 : decode cL_built 569 = .ok (.istore 8, 2) := by decide +kernel
theorem dL_built_571 : decode cL_built 571 = .ok (.aload_n 0, 1) := by decide +kernel
theorem dL_built_572 : decode cL_built 572 = .ok (.invokevirtual 225, 3) := by decide +kernel
theorem dL_built_575 : decode cL_built 575 = .ok (.istore 13, 2) := by decide +kernel
theorem dL_built_577 : decode cL_built 577 = .ok (.iload 8, 2) := by decide +kernel
theorem dL_built_579 : decode cL_built 579 = .ok (.ifCond .eq 37, 3) := by decide +kernel
theorem dL_built_582 : decode cL_built 582 = .ok (.iload 13, 2) := by decide +kernel
theorem dL_built_584 : decode cL_built 584 = .ok (.bipush (-90), 2) := by decide +kernel
theorem dL_built_586 : decode cL_built 586 = .ok (.if_icmp .eq 26, 3) := by decide +kernel
theorem dL_built_589 : decode cL_built 589 = .ok (.iload 13, 2) := by decide +kernel
theorem dL_built_591 : decode cL_built 591 = .ok (.ifCond .lt 7, 3) := by decide +kernel
theorem dL_built_594 : decode cL_built 594 = .ok (.iconst 1, 1) := by decide +kernel
theorem dL_built_595 : decode cL_built 595 = .ok (.goto 4, 3) := by decide +kernel
theorem dL_built_598 : decode cL_built 598 = .ok (.iconst 0, 1) := by decide +kernel
theorem dL_built_599 : decode cL_built 599 = .ok (.iload 5, 2) := by decide +kernel
theorem dL_built_601 : decode cL_built 601 = .ok (.ifCond .le 7, 3) := by decide +kernel
theorem dL_built_604 : decode cL_built 604 = .ok (.iconst 1, 1) := by decide +kernel
theorem dL_built_605 : decode cL_built 605 = .ok (.goto 4, 3) := by decide +kernel
theorem dL_built_608 : decode cL_built 608 = .ok (.iconst 0, 1) := by decide +kernel
theorem dL_built_609 : decode cL_built 609 = .ok (.if_icmp .ne 7, 3) := by decide +kernel
theorem dL_built_612 : decode cL_built 612 = .ok (.iconst 1, 1) := by decide +kernel
theorem dL_built_613 : decode cL_built 613 = .ok (.goto 4, 3) := by decide +kernel
theorem dL_built_616 : decode cL_built 616 = .ok (.iconst 0, 1) := by decide +kernel
theorem dL_built_617 : decode cL_built 617 = .ok (.istore 8, 2) := by decide +kernel
theorem dL_built_619 : decode cL_built 619 = .ok (.iconst 0, 1) := by decide +kernel
theorem dL_built_620 : decode cL_built 620 = .ok (.istore 14, 2) := by decide +kernel
theorem dL_built_622 : decode cL_built 622 = .ok (.iconst 0, 1) := by decide +kernel
theorem dL_built_623 : decode cL_built 623 = .ok (.istore 15, 2) := by decide +kernel
theorem dL_built_625 : decode cL_built 625 = .ok (.iconst 0, 1) := by decide +kernel
theorem dL_built_626 : decode cL_built 626 = .ok (.istore 16, 2) := by decide +kernel
theorem dL_built_628 : decode cL_built 628 = .ok (.iconst 0, 1) := by decide +kernel
theorem dL_built_629 : decode cL_built 629 = .ok (.istore 17, 2) := by decide +kernel
theorem dL_built_631 : decode cL_built 631 = .ok (.iload 17, 2) := by decide +kernel
theorem dL_built_633 : decode cL_built 633 = .ok (.bipush 8, 2) := by decide +kernel
theorem dL_built_635 : decode cL_built 635 = .ok (.if_icmp .ge 230, 3) := by decide +kernel
theorem dL_built_638 : decode cL_built 638 = .ok (.iload 8, 2) := by decide +kernel
theorem dL_built_640 : decode cL_built 640 = .ok (.ifCond .eq 225, 3) := by decide +kernel
theorem dL_built_643 : decode cL_built 643 = .ok (.aload_n 0, 1) := by decide +kernel
theorem dL_built_644 : decode cL_built 644 = .ok (.iload 17, 2) := by decide +kernel
theorem dL_built_646 : decode cL_built 646 = .ok (.invokestatic 133, 3) := by decide +kernel
theorem dL_built_649 : decode cL_built 649 = .ok (.istore 18, 2) := by decide +kernel
theorem dL_built_651 : decode cL_built 651 = .ok (.iload 18, 2) := by decide +kernel
theorem dL_built_653 : decode cL_built 653 = .ok (.bipush (-101), 2) := by decide +kernel
theorem dL_built_655 : decode cL_built 655 = .ok (.if_icmp .ne 6, 3) := by decide +kernel
theorem dL_built_658 : decode cL_built 658 = .ok (.goto 201, 3) := by decide +kernel
theorem dL_built_661 : decode cL_built 661 = .ok (.iload 18, 2) := by decide +kernel
theorem dL_built_663 : decode cL_built 663 = .ok (.iconst 2, 1) := by decide +kernel
theorem dL_built_664 : decode cL_built 664 = .ok (.idiv, 1) := by decide +kernel
theorem dL_built_665 : decode cL_built 665 = .ok (.istore 19, 2) := by decide +kernel
theorem dL_built_667 : decode cL_built 667 = .ok (.aload_n 0, 1) := by decide +kernel
theorem dL_built_668 : decode cL_built 668 = .ok (.iload 19, 2) := by decide +kernel
theorem dL_built_670 : decode cL_built 670 = .ok (.invokestatic 136, 3) := by decide +kernel
theorem dL_built_673 : decode cL_built 673 = .ok (.istore 20, 2) := by decide +kernel
theorem dL_built_675 : decode cL_built 675 = .ok (.iload 17, 2) := by decide +kernel
theorem dL_built_677 : decode cL_built 677 = .ok (.iload 16, 2) := by decide +kernel
theorem dL_built_679 : decode cL_built 679 = .ok (.if_icmp .ne 32, 3) := by decide +kernel
theorem dL_built_682 : decode cL_built 682 = .ok (.iload 14, 2) := by decide +kernel
theorem dL_built_684 : decode cL_built 684 = .ok (.iload 19, 2) := by decide +kernel
theorem dL_built_686 : decode cL_built 686 = .ok (.ishr, 1) := by decide +kernel
theorem dL_built_687 : decode cL_built 687 = .ok (.iconst 1, 1) := by decide +kernel
theorem dL_built_688 : decode cL_built 688 = .ok (.iand, 1) := by decide +kernel
theorem dL_built_689 : decode cL_built 689 = .ok (.ifCond .ne 22, 3) := by decide +kernel
theorem dL_built_692 : decode cL_built 692 = .ok (.aload_n 0, 1) := by decide +kernel
theorem dL_built_693 : decode cL_built 693 = .ok (.iload 19, 2) := by decide +kernel
theorem dL_built_695 : decode cL_built 695 = .ok (.invokestatic 131, 3) := by decide +kernel
theorem dL_built_698 : decode cL_built 698 = .ok (.iconst 1, 1) := by decide +kernel
theorem dL_built_699 : decode cL_built 699 = .ok (.iload 18, 2) := by decide +kernel
theorem dL_built_701 : decode cL_built 701 = .ok (.iconst 2, 1) := by decide +kernel
theorem dL_built_702 : decode cL_built 702 = .ok (.irem, 1) := by decide +kernel
theorem dL_built_703 : decode cL_built 703 = .ok (.isub, 1) := by decide +kernel
theorem dL_built_704 : decode cL_built 704 = .ok (.if_icmp .ne 7, 3) := by decide +kernel
theorem dL_built_707 : decode cL_built 707 = .ok (.iconst 1, 1) := by decide +kernel
theorem dL_built_708 : decode cL_built 708 = .ok (.goto 4, 3) := by decide +kernel
theorem dL_built_711 : decode cL_built 711 = .ok (.iconst 0, 1) := by decide +kernel
theorem dL_built_712 : decode cL_built 712 = .ok (.istore 8, 2) := by decide +kernel
theorem dL_built_714 : decode cL_built 714 = .ok (.iload 20, 2) := by decide +kernel
theorem dL_built_716 : decode cL_built 716 = .ok (.ifCond .lt 111, 3) := by decide +kernel
theorem dL_built_719 : decode cL_built 719 = .ok (.aload_n 0, 1) := by decide +kernel
theorem dL_built_720 : decode cL_built 720 = .ok (.iload 20, 2) := by decide +kernel
theorem dL_built_722 : decode cL_built 722 = .ok (.invokestatic 100, 3) := by decide +kernel
theorem dL_built_725 : decode cL_built 725 = .ok (.iconst 1, 1) := by decide +kernel
theorem dL_built_726 : decode cL_built 726 = .ok (.if_icmp .ne 12, 3) := by decide +kernel
theorem dL_built_729 : decode cL_built 729 = .ok (.aload_n 0, 1) := by decide +kernel
theorem dL_built_730 : decode cL_built 730 = .ok (.iload 20, 2) := by decide +kernel
theorem dL_built_732 : decode cL_built 732 = .ok (.invokestatic 103, 3) := by decide +kernel
theorem dL_built_735 : decode cL_built 735 = .ok (.goto 16, 3) := by decide +kernel
theorem dL_built_738 : decode cL_built 738 = .ok (.aload_n 0, 1) := by decide +kernel
theorem dL_built_739 : decode cL_built 739 = .ok (.iload 20, 2) := by decide +kernel
theorem dL_built_741 : decode cL_built 741 = .ok (.invokestatic 103, 3) := by decide +kernel
theorem dL_built_744 : decode cL_built 744 = .ok (.aload_n 0, 1) := by decide +kernel
theorem dL_built_745 : decode cL_built 745 = .ok (.iload 20, 2) := by decide +kernel
theorem dL_built_747 : decode cL_built 747 = .ok (.invokestatic 106, 3) := by decide +kernel
theorem dL_built_750 : decode cL_built 750 = .ok (.ior, 1) := by decide +kernel
theorem dL_built_751 : decode cL_built 751 = .ok (.istore 21, 2) := by decide +kernel
theorem dL_built_753 : decode cL_built 753 = .ok (.iload 18, 2) := by decide +kernel
theorem dL_built_755 : decode cL_built 755 = .ok (.iconst 2, 1) := by decide +kernel
theorem dL_built_756 : decode cL_built 756 = .ok (.irem, 1) := by decide +kernel
theorem dL_built_757 : decode cL_built 757 = .ok (.ifCond .ne 13, 3) := by decide +kernel
theorem dL_built_760 : decode cL_built 760 = .ok (.iload 15, 2) := by decide +kernel
theorem dL_built_762 : decode cL_built 762 = .ok (.iconst 1, 1) := by decide +kernel
theorem dL_built_763 : decode cL_built 763 = .ok (.iload 19, 2) := by decide +kernel
theorem dL_built_765 : decode cL_built 765 = .ok (.ishl, 1) := by decide +kernel
theorem dL_built_766 : decode cL_built 766 = .ok (.ior, 1) := by decide +kernel
theorem dL_built_767 : decode cL_built 767 = .ok (.goto 5, 3) := by decide +kernel
theorem dL_built_770 : decode cL_built 770 = .ok (.iload 15, 2) := by decide +kernel
theorem dL_built_772 : decode cL_built 772 = .ok (.istore 22, 2) := by decide +kernel
theorem dL_built_774 : decode cL_built 774 = .ok (.iload 8, 2) := by decide +kernel
theorem dL_built_776 : decode cL_built 776 = .ok (.ifCond .eq 48, 3) := by decide +kernel
theorem dL_built_779 : decode cL_built 779 = .ok (.iload 21, 2) := by decide +kernel
theorem dL_built_781 : decode cL_built 781 = .ok (.iload 14, 2) := by decide +kernel
theorem dL_built_783 : decode cL_built 783 = .ok (.iconst (-1), 1) := by decide +kernel
theorem dL_built_784 : decode cL_built 784 = .ok (.ixor, 1) := by decide +kernel
theorem dL_built_785 : decode cL_built 785 = .ok (.iand, 1) := by decide +kernel
theorem dL_built_786 : decode cL_built 786 = .ok (.iconst 1, 1) := by decide +kernel
theorem dL_built_787 : decode cL_built 787 = .ok (.iload 19, 2) := by decide +kernel
theorem dL_built_789 : decode cL_built 789 = .ok (.ishl, 1) := by decide +kernel
theorem dL_built_790 : decode cL_built 790 = .ok (.if_icmp .ne 34, 3) := by decide +kernel
theorem dL_built_793 : decode cL_built 793 = .ok (.aload_n 0, 1) := by decide +kernel
theorem dL_built_794 : decode cL_built 794 = .ok (.iload 20, 2) := by decide +kernel
theorem dL_built_796 : decode cL_built 796 = .ok (.iload 22, 2) := by decide +kernel
theorem dL_built_798 : decode cL_built 798 = .ok (.invokestatic 231, 3) := by decide +kernel
theorem dL_built_801 : decode cL_built 801 = .ok (.ifCond .eq 23, 3) := by decide +kernel
theorem dL_built_804 : decode cL_built 804 = .ok (.aload_n 0, 1) := by decide +kernel
theorem dL_built_805 : decode cL_built 805 = .ok (.iload 20, 2) := by decide +kernel
theorem dL_built_807 : decode cL_built 807 = .ok (.iload 22, 2) := by decide +kernel
theorem dL_built_809 : decode cL_built 809 = .ok (.iconst 1, 1) := by decide +kernel
theorem dL_built_810 : decode cL_built 810 = .ok (.iload 19, 2) := by decide +kernel
theorem dL_built_812 : decode cL_built 812 = .ok (.ishl, 1) := by decide +kernel
theorem dL_built_813 : decode cL_built 813 = .ok (.ixor, 1) := by decide +kernel
theorem dL_built_814 : decode cL_built 814 = .ok (.invokestatic 231, 3) := by decide +kernel
theorem dL_built_817 : decode cL_built 817 = .ok (.ifCond .ne 7, 3) := by decide +kernel
theorem dL_built_820 : decode cL_built 820 = .ok (.iconst 1, 1) := by decide +kernel
theorem dL_built_821 : decode cL_built 821 = .ok (.goto 4, 3) := by decide +kernel
theorem dL_built_824 : decode cL_built 824 = .ok (.iconst 0, 1) := by decide +kernel
theorem dL_built_825 : decode cL_built 825 = .ok (.istore 8, 2) := by decide +kernel
theorem dL_built_827 : decode cL_built 827 = .ok (.iload 14, 2) := by decide +kernel
theorem dL_built_829 : decode cL_built 829 = .ok (.iconst 1, 1) := by decide +kernel
theorem dL_built_830 : decode cL_built 830 = .ok (.iload 19, 2) := by decide +kernel
theorem dL_built_832 : decode cL_built 832 = .ok (.ishl, 1) := by decide +kernel
theorem dL_built_833 : decode cL_built 833 = .ok (.ior, 1) := by decide +kernel
theorem dL_built_834 : decode cL_built 834 = .ok (.istore 14, 2) := by decide +kernel
theorem dL_built_836 : decode cL_built 836 = .ok (.iload 15, 2) := by decide +kernel
theorem dL_built_838 : decode cL_built 838 = .ok (.iload 18, 2) := by decide +kernel
theorem dL_built_840 : decode cL_built 840 = .ok (.iconst 2, 1) := by decide +kernel
theorem dL_built_841 : decode cL_built 841 = .ok (.irem, 1) := by decide +kernel
theorem dL_built_842 : decode cL_built 842 = .ok (.ifCond .ne 10, 3) := by decide +kernel
theorem dL_built_845 : decode cL_built 845 = .ok (.iconst 1, 1) := by decide +kernel
theorem dL_built_846 : decode cL_built 846 = .ok (.iload 19, 2) := by decide +kernel
theorem dL_built_848 : decode cL_built 848 = .ok (.ishl, 1) := by decide +kernel
theorem dL_built_849 : decode cL_built 849 = .ok (.goto 4, 3) := by decide +kernel
theorem dL_built_852 : decode cL_built 852 = .ok (.iconst 0, 1) := by decide +kernel
theorem dL_built_853 : decode cL_built 853 = .ok (.ior, 1) := by decide +kernel
theorem dL_built_854 : decode cL_built 854 = .ok (.istore 15, 2) := by decide +kernel
theorem dL_built_856 : decode cL_built 856 = .ok (.iinc 16 1, 3) := by decide +kernel
theorem dL_built_859 : decode cL_built 859 = .ok (.iinc 17 1, 3) := by decide +kernel
theorem dL_built_862 : decode cL_built 862 = .ok (.goto (-231), 3) := by decide +kernel
theorem dL_built_865 : decode cL_built 865 = .ok (.iconst 0, 1) := by decide +kernel
theorem dL_built_866 : decode cL_built 866 = .ok (.istore 17, 2) := by decide +kernel
theorem dL_built_868 : decode cL_built 868 = .ok (.iload 17, 2) := by decide +kernel
theorem dL_built_870 : decode cL_built 870 = .ok (.bipush 8, 2) := by decide +kernel
theorem dL_built_872 : decode cL_built 872 = .ok (.if_icmp .ge 75, 3) := by decide +kernel
theorem dL_built_875 : decode cL_built 875 = .ok (.iload 8, 2) := by decide +kernel
theorem dL_built_877 : decode cL_built 877 = .ok (.ifCond .eq 70, 3) := by decide +kernel
theorem dL_built_880 : decode cL_built 880 = .ok (.aload_n 0, 1) := by decide +kernel
theorem dL_built_881 : decode cL_built 881 = .ok (.iload 17, 2) := by decide +kernel
theorem dL_built_883 : decode cL_built 883 = .ok (.invokestatic 131, 3) := by decide +kernel
theorem dL_built_886 : decode cL_built 886 = .ok (.iconst 2, 1) := by decide +kernel
theorem dL_built_887 : decode cL_built 887 = .ok (.if_icmp .ne 7, 3) := by decide +kernel
theorem dL_built_890 : decode cL_built 890 = .ok (.iconst 1, 1) := by decide +kernel
theorem dL_built_891 : decode cL_built 891 = .ok (.goto 4, 3) := by decide +kernel
theorem dL_built_894 : decode cL_built 894 = .ok (.iconst 0, 1) := by decide +kernel
theorem dL_built_895 : decode cL_built 895 = .ok (.iload 14, 2) := by decide +kernel
theorem dL_built_897 : decode cL_built 897 = .ok (.iload 17, 2) := by decide +kernel
theorem dL_built_899 : decode cL_built 899 = .ok (.ishr, 1) := by decide +kernel
theorem dL_built_900 : decode cL_built 900 = .ok (.iconst 1, 1) := by decide +kernel
theorem dL_built_901 : decode cL_built 901 = .ok (.iand, 1) := by decide +kernel
theorem dL_built_902 : decode cL_built 902 = .ok (.ifCond .ne 7, 3) := by decide +kernel
theorem dL_built_905 : decode cL_built 905 = .ok (.iconst 1, 1) := by decide +kernel
theorem dL_built_906 : decode cL_built 906 = .ok (.goto 4, 3) := by decide +kernel
theorem dL_built_909 : decode cL_built 909 = .ok (.iconst 0, 1) := by decide +kernel
theorem dL_built_910 : decode cL_built 910 = .ok (.if_icmp .ne 28, 3) := by decide +kernel
theorem dL_built_913 : decode cL_built 913 = .ok (.aload_n 0, 1) := by decide +kernel
theorem dL_built_914 : decode cL_built 914 = .ok (.iload 17, 2) := by decide +kernel
theorem dL_built_916 : decode cL_built 916 = .ok (.invokestatic 131, 3) := by decide +kernel
theorem dL_built_919 : decode cL_built 919 = .ok (.iconst 2, 1) := by decide +kernel
theorem dL_built_920 : decode cL_built 920 = .ok (.if_icmp .lt 14, 3) := by decide +kernel
theorem dL_built_923 : decode cL_built 923 = .ok (.aload_n 0, 1) := by decide +kernel
theorem dL_built_924 : decode cL_built 924 = .ok (.iload 17, 2) := by decide +kernel
theorem dL_built_926 : decode cL_built 926 = .ok (.invokestatic 136, 3) := by decide +kernel
theorem dL_built_929 : decode cL_built 929 = .ok (.bipush (-9), 2) := by decide +kernel
theorem dL_built_931 : decode cL_built 931 = .ok (.if_icmp .ne 7, 3) := by decide +kernel
theorem dL_built_934 : decode cL_built 934 = .ok (.iconst 1, 1) := by decide +kernel
theorem dL_built_935 : decode cL_built 935 = .ok (.goto 4, 3) := by decide +kernel
theorem dL_built_938 : decode cL_built 938 = .ok (.iconst 0, 1) := by decide +kernel
theorem dL_built_939 : decode cL_built 939 = .ok (.istore 8, 2) := by decide +kernel
theorem dL_built_941 : decode cL_built 941 = .ok (.iinc 17 1, 3) := by decide +kernel
theorem dL_built_944 : decode cL_built 944 = .ok (.goto (-76), 3) := by decide +kernel
theorem dL_built_947 : decode cL_built 947 = .ok (.aload_n 0, 1) := by decide +kernel
theorem dL_built_948 : decode cL_built 948 = .ok (.invokevirtual 151, 3) := by decide +kernel
theorem dL_built_951 : decode cL_built 951 = .ok (.istore 17, 2) := by decide +kernel
theorem dL_built_953 : decode cL_built 953 = .ok (.iload 17, 2) := by decide +kernel
theorem dL_built_955 : decode cL_built 955 = .ok (.bipush (-9), 2) := by decide +kernel
theorem dL_built_957 : decode cL_built 957 = .ok (.if_icmp .eq 70, 3) := by decide +kernel
theorem dL_built_960 : decode cL_built 960 = .ok (.iload 8, 2) := by decide +kernel
theorem dL_built_962 : decode cL_built 962 = .ok (.ifCond .eq 65, 3) := by decide +kernel
theorem dL_built_965 : decode cL_built 965 = .ok (.aload_n 0, 1) := by decide +kernel
theorem dL_built_966 : decode cL_built 966 = .ok (.iload 17, 2) := by decide +kernel
theorem dL_built_968 : decode cL_built 968 = .ok (.invokestatic 100, 3) := by decide +kernel
theorem dL_built_971 : decode cL_built 971 = .ok (.iconst 1, 1) := by decide +kernel
theorem dL_built_972 : decode cL_built 972 = .ok (.if_icmp .ne 12, 3) := by decide +kernel
theorem dL_built_975 : decode cL_built 975 = .ok (.aload_n 0, 1) := by decide +kernel
theorem dL_built_976 : decode cL_built 976 = .ok (.iload 17, 2) := by decide +kernel
theorem dL_built_978 : decode cL_built 978 = .ok (.invokestatic 103, 3) := by decide +kernel
theorem dL_built_981 : decode cL_built 981 = .ok (.goto 16, 3) := by decide +kernel
theorem dL_built_984 : decode cL_built 984 = .ok (.aload_n 0, 1) := by decide +kernel
theorem dL_built_985 : decode cL_built 985 = .ok (.iload 17, 2) := by decide +kernel
theorem dL_built_987 : decode cL_built 987 = .ok (.invokestatic 103, 3) := by decide +kernel
theorem dL_built_990 : decode cL_built 990 = .ok (.aload_n 0, 1) := by decide +kernel
theorem dL_built_991 : decode cL_built 991 = .ok (.iload 17, 2) := by decide +kernel
theorem dL_built_993 : decode cL_built 993 = .ok (.invokestatic 106, 3) := by decide +kernel
theorem dL_built_996 : decode cL_built 996 = .ok (.ior, 1) := by decide +kernel
theorem dL_built_997 : decode cL_built 997 = .ok (.istore 18, 2) := by decide +kernel
theorem dL_built_999 : decode cL_built 999 = .ok (.iload 18, 2) := by decide +kernel
theorem dL_built_1001 : decode cL_built 1001 = .ok (.iload 14, 2) := by decide +kernel
theorem dL_built_1003 : decode cL_built 1003 = .ok (.iconst (-1), 1) := by decide +kernel
theorem dL_built_1004 : decode cL_built 1004 = .ok (.ixor, 1) := by decide +kernel
theorem dL_built_1005 : decode cL_built 1005 = .ok (.iand, 1) := by decide +kernel
theorem dL_built_1006 : decode cL_built 1006 = .ok (.ifCond .ne 18, 3) := by decide +kernel
theorem dL_built_1009 : decode cL_built 1009 = .ok (.aload_n 0, 1) := by decide +kernel
theorem dL_built_1010 : decode cL_built 1010 = .ok (.iload 17, 2) := by decide +kernel
theorem dL_built_1012 : decode cL_built 1012 = .ok (.iload 15, 2) := by decide +kernel
theorem dL_built_1014 : decode cL_built 1014 = .ok (.invokestatic 231, 3) := by decide +kernel
theorem dL_built_1017 : decode cL_built 1017 = .ok (.ifCond .ne 7, 3) := by decide +kernel
theorem dL_built_1020 : decode cL_built 1020 = .ok (.iconst 1, 1) := by decide +kernel
theorem dL_built_1021 : decode cL_built 1021 = .ok (.goto 4, 3) := by decide +kernel
theorem dL_built_1024 : decode cL_built 1024 = .ok (.iconst 0, 1) := by decide +kernel
theorem dL_built_1025 : decode cL_built 1025 = .ok (.istore 8, 2) := by decide +kernel
theorem dL_built_1027 : decode cL_built 1027 = .ok (.iload 8, 2) := by decide +kernel
theorem dL_built_1029 : decode cL_built 1029 = .ok (.ireturn, 1) := by decide +kernel
theorem dL_ahead_0 : decode cL_ahead 0 = .ok (.aload_n 0, 1) := by decide +kernel
theorem dL_ahead_1 : decode cL_ahead 1 = .ok (.invokestatic 209, 3) := by decide +kernel
theorem dL_ahead_4 : decode cL_ahead 4 = .ok (.lstore_n 2, 1) := by decide +kernel
theorem dL_ahead_5 : decode cL_ahead 5 = .ok (.aload_n 0, 1) := by decide +kernel
theorem dL_ahead_6 : decode cL_ahead 6 = .ok (.invokevirtual 92, 3) := by decide +kernel
theorem dL_ahead_9 : decode cL_ahead 9 = .ok (.istore 4, 2) := by decide +kernel
theorem dL_ahead_11 : decode cL_ahead 11 = .ok (.aload_n 0, 1) := by decide +kernel
theorem dL_ahead_12 : decode cL_ahead 12 = .ok (.invokevirtual 126, 3) := by decide +kernel
theorem dL_ahead_15 : decode cL_ahead 15 = .ok (.istore 5, 2) := by decide +kernel
theorem dL_ahead_17 : decode cL_ahead 17 = .ok (.aload_n 0, 1) := by decide +kernel
theorem dL_ahead_18 : decode cL_ahead 18 = .ok (.invokevirtual 216, 3) := by decide +kernel
theorem dL_ahead_21 : decode cL_ahead 21 = .ok (.istore 6, 2) := by decide +kernel
theorem dL_ahead_23 : decode cL_ahead 23 = .ok (.aload_n 0, 1) := by decide +kernel
theorem dL_ahead_24 : decode cL_ahead 24 = .ok (.iconst 1, 1) := by decide +kernel
theorem dL_ahead_25 : decode cL_ahead 25 = .ok (.invokestatic 144, 3) := by decide +kernel
theorem dL_ahead_28 : decode cL_ahead 28 = .ok (.iload 4, 2) := by decide +kernel
theorem dL_ahead_30 : decode cL_ahead 30 = .ok (.if_icmp .ne 7, 3) := by decide +kernel
theorem dL_ahead_33 : decode cL_ahead 33 = .ok (.iconst 1, 1) := by decide +kernel
theorem dL_ahead_34 : decode cL_ahead 34 = .ok (.goto 4, 3) := by decide +kernel
theorem dL_ahead_37 : decode cL_ahead 37 = .ok (.iconst 0, 1) := by decide +kernel
theorem dL_ahead_38 : decode cL_ahead 38 = .ok (.istore 7, 2) := by decide +kernel
theorem dL_ahead_40 : decode cL_ahead 40 = .ok (.aload_n 0, 1) := by decide +kernel
theorem dL_ahead_41 : decode cL_ahead 41 = .ok (.invokevirtual 151, 3) := by decide +kernel
theorem dL_ahead_44 : decode cL_ahead 44 = .ok (.bipush (-9), 2) := by decide +kernel
theorem dL_ahead_46 : decode cL_ahead 46 = .ok (.if_icmp .eq 146, 3) := by decide +kernel
theorem dL_ahead_49 : decode cL_ahead 49 = .ok (.iload 5, 2) := by decide +kernel
theorem dL_ahead_51 : decode cL_ahead 51 = .ok (.ifCond .le 141, 3) := by decide +kernel
theorem dL_ahead_54 : decode cL_ahead 54 = .ok (.iload 4, 2) := by decide +kernel
theorem dL_ahead_56 : decode cL_ahead 56 = .ok (.bipush 24, 2) := by decide +kernel
theorem dL_ahead_58 : decode cL_ahead 58 = .ok (.if_icmp .ge 134, 3) := by decide +kernel
theorem dL_ahead_61 : decode cL_ahead 61 = .ok (.aload_n 0, 1) := by decide +kernel
theorem dL_ahead_62 : decode cL_ahead 62 = .ok (.invokestatic 157, 3) := by decide +kernel
theorem dL_ahead_65 : decode cL_ahead 65 = .ok (.istore 8, 2) := by decide +kernel
theorem dL_ahead_67 : decode cL_ahead 67 = .ok (.aload_n 0, 1) := by decide +kernel
theorem dL_ahead_68 : decode cL_ahead 68 = .ok (.iload 8, 2) := by decide +kernel
theorem dL_ahead_70 : decode cL_ahead 70 = .ok (.sipush 255, 3) := by decide +kernel
theorem dL_ahead_73 : decode cL_ahead 73 = .ok (.iand, 1) := by decide +kernel
theorem dL_ahead_74 : decode cL_ahead 74 = .ok (.iload 8, 2) := by decide +kernel
theorem dL_ahead_76 : decode cL_ahead 76 = .ok (.bipush 8, 2) := by decide +kernel
theorem dL_ahead_78 : decode cL_ahead 78 = .ok (.ishr, 1) := by decide +kernel
theorem dL_ahead_79 : decode cL_ahead 79 = .ok (.invokestatic 138, 3) := by decide +kernel
theorem dL_ahead_82 : decode cL_ahead 82 = .ok (.istore 9, 2) := by decide +kernel
theorem dL_ahead_84 : decode cL_ahead 84 = .ok (.aload_n 0, 1) := by decide +kernel
theorem dL_ahead_85 : decode cL_ahead 85 = .ok (.invokestatic 154, 3) := by decide +kernel
theorem dL_ahead_88 : decode cL_ahead 88 = .ok (.istore 10, 2) := by decide +kernel
theorem dL_ahead_90 : decode cL_ahead 90 = .ok (.iload 7, 2) := by decide +kernel
theorem dL_ahead_92 : decode cL_ahead 92 = .ok (.ifCond .eq 97, 3) := by decide +kernel
theorem dL_ahead_95 : decode cL_ahead 95 = .ok (.iload 9, 2) := by decide +kernel
theorem dL_ahead_97 : decode cL_ahead 97 = .ok (.iconst 1, 1) := by decide +kernel
theorem dL_ahead_98 : decode cL_ahead 98 = .ok (.if_icmp .ne 91, 3) := by decide +kernel
theorem dL_ahead_101 : decode cL_ahead 101 = .ok (.iload 10, 2) := by decide +kernel
theorem dL_ahead_103 : decode cL_ahead 103 = .ok (.ifCond .lt 86, 3) := by decide +kernel
theorem dL_ahead_106 : decode cL_ahead 106 = .ok (.iload 10, 2) := by decide +kernel
theorem dL_ahead_108 : decode cL_ahead 108 = .ok (.iload 5, 2) := by decide +kernel
theorem dL_ahead_110 : decode cL_ahead 110 = .ok (.if_icmp .ge 79, 3) := by decide +kernel
theorem dL_ahead_113 : decode cL_ahead 113 = .ok (.aload_n 0, 1) := by decide +kernel
theorem dL_ahead_114 : decode cL_ahead 114 = .ok (.invokevirtual 126, 3) := by decide +kernel
theorem dL_ahead_117 : decode cL_ahead 117 = .ok (.iload 10, 2) := by decide +kernel
theorem dL_ahead_119 : decode cL_ahead 119 = .ok (.if_icmp .gt 70, 3) := by decide +kernel
theorem dL_ahead_122 : decode cL_ahead 122 = .ok (.aload_n 0, 1) := by decide +kernel
theorem dL_ahead_123 : decode cL_ahead 123 = .ok (.iload 4, 2) := by decide +kernel
theorem dL_ahead_125 : decode cL_ahead 125 = .ok (.invokestatic 103, 3) := by decide +kernel
theorem dL_ahead_128 : decode cL_ahead 128 = .ok (.iload 8, 2) := by decide +kernel
theorem dL_ahead_130 : decode cL_ahead 130 = .ok (.sipush 255, 3) := by decide +kernel
theorem dL_ahead_133 : decode cL_ahead 133 = .ok (.iand, 1) := by decide +kernel
theorem dL_ahead_134 : decode cL_ahead 134 = .ok (.if_icmp .ne 55, 3) := by decide +kernel
theorem dL_ahead_137 : decode cL_ahead 137 = .ok (.aload_n 0, 1) := by decide +kernel
theorem dL_ahead_138 : decode cL_ahead 138 = .ok (.iload 4, 2) := by decide +kernel
theorem dL_ahead_140 : decode cL_ahead 140 = .ok (.invokestatic 106, 3) := by decide +kernel
theorem dL_ahead_143 : decode cL_ahead 143 = .ok (.iload 8, 2) := by decide +kernel
theorem dL_ahead_145 : decode cL_ahead 145 = .ok (.bipush 8, 2) := by decide +kernel
theorem dL_ahead_147 : decode cL_ahead 147 = .ok (.ishr, 1) := by decide +kernel
theorem dL_ahead_148 : decode cL_ahead 148 = .ok (.if_icmp .ne 41, 3) := by decide +kernel
theorem dL_ahead_151 : decode cL_ahead 151 = .ok (.aload_n 0, 1) := by decide +kernel
theorem dL_ahead_152 : decode cL_ahead 152 = .ok (.iload 4, 2) := by decide +kernel
theorem dL_ahead_154 : decode cL_ahead 154 = .ok (.invokestatic 100, 3) := by decide +kernel
theorem dL_ahead_157 : decode cL_ahead 157 = .ok (.ifCond .ne 32, 3) := by decide +kernel
theorem dL_ahead_160 : decode cL_ahead 160 = .ok (.aload_n 0, 1) := by decide +kernel
theorem dL_ahead_161 : decode cL_ahead 161 = .ok (.invokevirtual 216, 3) := by decide +kernel
theorem dL_ahead_164 : decode cL_ahead 164 = .ok (.iload 6, 2) := by decide +kernel
theorem dL_ahead_166 : decode cL_ahead 166 = .ok (.if_icmp .ne 23, 3) := by decide +kernel
theorem dL_ahead_169 : decode cL_ahead 169 = .ok (.aload_n 0, 1) := by decide +kernel
theorem dL_ahead_170 : decode cL_ahead 170 = .ok (.invokestatic 171, 3) := by decide +kernel
theorem dL_ahead_173 : decode cL_ahead 173 = .ok (.ifCond .lt 16, 3) := by decide +kernel
theorem dL_ahead_176 : decode cL_ahead 176 = .ok (.aload_n 0, 1) := by decide +kernel
theorem dL_ahead_177 : decode cL_ahead 177 = .ok (.invokestatic 209, 3) := by decide +kernel
theorem dL_ahead_180 : decode cL_ahead 180 = .ok (.lload_n 2, 1) := by decide +kernel
theorem dL_ahead_181 : decode cL_ahead 181 = .ok (.lcmp, 1) := by decide +kernel
theorem dL_ahead_182 : decode cL_ahead 182 = .ok (.ifCond .ne 7, 3) := by decide +kernel
theorem dL_ahead_185 : decode cL_ahead 185 = .ok (.iconst 1, 1) := by decide +kernel
theorem dL_ahead_186 : decode cL_ahead 186 = .ok (.goto 4, 3) := by decide +kernel
theorem dL_ahead_189 : decode cL_ahead 189 = .ok (.iconst 0, 1) := by decide +kernel
theorem dL_ahead_190 : decode cL_ahead 190 = .ok (.istore 7, 2) := by decide +kernel
theorem dL_ahead_192 : decode cL_ahead 192 = .ok (.aload_n 0, 1) := by decide +kernel
theorem dL_ahead_193 : decode cL_ahead 193 = .ok (.invokevirtual 151, 3) := by decide +kernel
theorem dL_ahead_196 : decode cL_ahead 196 = .ok (.bipush (-9), 2) := by decide +kernel
theorem dL_ahead_198 : decode cL_ahead 198 = .ok (.if_icmp .ne 130, 3) := by decide +kernel
theorem dL_ahead_201 : decode cL_ahead 201 = .ok (.iload 7, 2) := by decide +kernel
theorem dL_ahead_203 : decode cL_ahead 203 = .ok (.ifCond .eq 125, 3) := by decide +kernel
theorem dL_ahead_206 : decode cL_ahead 206 = .ok (.iload_n 1, 1) := by decide +kernel
theorem dL_ahead_207 : decode cL_ahead 207 = .ok (.bipush 16, 2) := by decide +kernel
theorem dL_ahead_209 : decode cL_ahead 209 = .ok (.irem, 1) := by decide +kernel
theorem dL_ahead_210 : decode cL_ahead 210 = .ok (.istore 8, 2) := by decide +kernel
theorem dL_ahead_212 : decode cL_ahead 212 = .ok (.aload_n 0, 1) := by decide +kernel
theorem dL_ahead_213 : decode cL_ahead 213 = .ok (.iload 8, 2) := by decide +kernel
theorem dL_ahead_215 : decode cL_ahead 215 = .ok (.iconst 2, 1) := by decide +kernel
theorem dL_ahead_216 : decode cL_ahead 216 = .ok (.idiv, 1) := by decide +kernel
theorem dL_ahead_217 : decode cL_ahead 217 = .ok (.invokestatic 131, 3) := by decide +kernel
theorem dL_ahead_220 : decode cL_ahead 220 = .ok (.iconst 2, 1) := by decide +kernel
theorem dL_ahead_221 : decode cL_ahead 221 = .ok (.if_icmp .ne 7, 3) := by decide +kernel
theorem dL_ahead_224 : decode cL_ahead 224 = .ok (.iconst 1, 1) := by decide +kernel
theorem dL_ahead_225 : decode cL_ahead 225 = .ok (.goto 4, 3) := by decide +kernel
theorem dL_ahead_228 : decode cL_ahead 228 = .ok (.iconst 0, 1) := by decide +kernel
theorem dL_ahead_229 : decode cL_ahead 229 = .ok (.istore 9, 2) := by decide +kernel
theorem dL_ahead_231 : decode cL_ahead 231 = .ok (.aload_n 0, 1) := by decide +kernel
theorem dL_ahead_232 : decode cL_ahead 232 = .ok (.iload 8, 2) := by decide +kernel
theorem dL_ahead_234 : decode cL_ahead 234 = .ok (.invokestatic 124, 3) := by decide +kernel
theorem dL_ahead_237 : decode cL_ahead 237 = .ok (.istore 10, 2) := by decide +kernel
theorem dL_ahead_239 : decode cL_ahead 239 = .ok (.iload 9, 2) := by decide +kernel
theorem dL_ahead_241 : decode cL_ahead 241 = .ok (.ifCond .eq 73, 3) := by decide +kernel
theorem dL_ahead_244 : decode cL_ahead 244 = .ok (.iload 10, 2) := by decide +kernel
theorem dL_ahead_246 : decode cL_ahead 246 = .ok (.ifCond .le 64, 3) := by decide +kernel
theorem dL_ahead_249 : decode cL_ahead 249 = .ok (.aload_n 0, 1) := by decide +kernel
theorem dL_ahead_250 : decode cL_ahead 250 = .ok (.invokevirtual 126, 3) := by decide +kernel
theorem dL_ahead_253 : decode cL_ahead 253 = .ok (.iload 5, 2) := by decide +kernel
theorem dL_ahead_255 : decode cL_ahead 255 = .ok (.iconst 1, 1) := by decide +kernel
theorem dL_ahead_256 : decode cL_ahead 256 = .ok (.iadd, 1) := by decide +kernel
theorem dL_ahead_257 : decode cL_ahead 257 = .ok (.if_icmp .ne 53, 3) := by decide +kernel
theorem dL_ahead_260 : decode cL_ahead 260 = .ok (.aload_n 0, 1) := by decide +kernel
theorem dL_ahead_261 : decode cL_ahead 261 = .ok (.iload 8, 2) := by decide +kernel
theorem dL_ahead_263 : decode cL_ahead 263 = .ok (.iconst 2, 1) := by decide +kernel
theorem dL_ahead_264 : decode cL_ahead 264 = .ok (.idiv, 1) := by decide +kernel
theorem dL_ahead_265 : decode cL_ahead 265 = .ok (.invokestatic 131, 3) := by decide +kernel
theorem dL_ahead_268 : decode cL_ahead 268 = .ok (.iconst 1, 1) := by decide +kernel
theorem dL_ahead_269 : decode cL_ahead 269 = .ok (.iload 8, 2) := by decide +kernel
theorem dL_ahead_271 : decode cL_ahead 271 = .ok (.iconst 2, 1) := by decide +kernel
theorem dL_ahead_272 : decode cL_ahead 272 = .ok (.irem, 1) := by decide +kernel
theorem dL_ahead_273 : decode cL_ahead 273 = .ok (.isub, 1) := by decide +kernel
theorem dL_ahead_274 : decode cL_ahead 274 = .ok (.if_icmp .ne 36, 3) := by decide +kernel
theorem dL_ahead_277 : decode cL_ahead 277 = .ok (.aload_n 0, 1) := by decide +kernel
theorem dL_ahead_278 : decode cL_ahead 278 = .ok (.iload 8, 2) := by decide +kernel
theorem dL_ahead_280 : decode cL_ahead 280 = .ok (.iconst 2, 1) := by decide +kernel
theorem dL_ahead_281 : decode cL_ahead 281 = .ok (.idiv, 1) := by decide +kernel
theorem dL_ahead_282 : decode cL_ahead 282 = .ok (.invokestatic 136, 3) := by decide +kernel
theorem dL_ahead_285 : decode cL_ahead 285 = .ok (.bipush (-9), 2) := by decide +kernel
theorem dL_ahead_287 : decode cL_ahead 287 = .ok (.if_icmp .ne 23, 3) := by decide +kernel
theorem dL_ahead_290 : decode cL_ahead 290 = .ok (.aload_n 0, 1) := by decide +kernel
theorem dL_ahead_291 : decode cL_ahead 291 = .ok (.invokestatic 171, 3) := by decide +kernel
theorem dL_ahead_294 : decode cL_ahead 294 = .ok (.ifCond .lt 16, 3) := by decide +kernel
theorem dL_ahead_297 : decode cL_ahead 297 = .ok (.aload_n 0, 1) := by decide +kernel
theorem dL_ahead_298 : decode cL_ahead 298 = .ok (.invokestatic 209, 3) := by decide +kernel
theorem dL_ahead_301 : decode cL_ahead 301 = .ok (.lload_n 2, 1) := by decide +kernel
theorem dL_ahead_302 : decode cL_ahead 302 = .ok (.lcmp, 1) := by decide +kernel
theorem dL_ahead_303 : decode cL_ahead 303 = .ok (.ifCond .ne 7, 3) := by decide +kernel
theorem dL_ahead_306 : decode cL_ahead 306 = .ok (.iconst 1, 1) := by decide +kernel
theorem dL_ahead_307 : decode cL_ahead 307 = .ok (.goto 19, 3) := by decide +kernel
theorem dL_ahead_310 : decode cL_ahead 310 = .ok (.iconst 0, 1) := by decide +kernel
theorem dL_ahead_311 : decode cL_ahead 311 = .ok (.goto 15, 3) := by decide +kernel
theorem dL_ahead_314 : decode cL_ahead 314 = .ok (.iload 10, 2) := by decide +kernel
theorem dL_ahead_316 : decode cL_ahead 316 = .ok (.bipush (-103), 2) := by decide +kernel
theorem dL_ahead_318 : decode cL_ahead 318 = .ok (.if_icmp .ne 7, 3) := by decide +kernel
theorem dL_ahead_321 : decode cL_ahead 321 = .ok (.iconst 1, 1) := by decide +kernel
theorem dL_ahead_322 : decode cL_ahead 322 = .ok (.goto 4, 3) := by decide +kernel
theorem dL_ahead_325 : decode cL_ahead 325 = .ok (.iconst 0, 1) := by decide +kernel
theorem dL_ahead_326 : decode cL_ahead 326 = .ok (.istore 7, 2) := by decide +kernel
theorem dL_ahead_328 : decode cL_ahead 328 = .ok (.iload 4, 2) := by decide +kernel
theorem dL_ahead_330 : decode cL_ahead 330 = .ok (.ifCond .ne 7, 3) := by decide +kernel
theorem dL_ahead_333 : decode cL_ahead 333 = .ok (.iconst 0, 1) := by decide +kernel
theorem dL_ahead_334 : decode cL_ahead 334 = .ok (.goto 10, 3) := by decide +kernel
theorem dL_ahead_337 : decode cL_ahead 337 = .ok (.iload_n 1, 1) := by decide +kernel
theorem dL_ahead_338 : decode cL_ahead 338 = .ok (.bipush 16, 2) := by decide +kernel
theorem dL_ahead_340 : decode cL_ahead 340 = .ok (.idiv, 1) := by decide +kernel
theorem dL_ahead_341 : decode cL_ahead 341 = .ok (.iload 4, 2) := by decide +kernel
theorem dL_ahead_343 : decode cL_ahead 343 = .ok (.irem, 1) := by decide +kernel
theorem dL_ahead_344 : decode cL_ahead 344 = .ok (.istore 8, 2) := by decide +kernel
theorem dL_ahead_346 : decode cL_ahead 346 = .ok (.iload 4, 2) := by decide +kernel
theorem dL_ahead_348 : decode cL_ahead 348 = .ok (.ifCond .ne 7, 3) := by decide +kernel
theorem dL_ahead_351 : decode cL_ahead 351 = .ok (.iconst 0, 1) := by decide +kernel
theorem dL_ahead_352 : decode cL_ahead 352 = .ok (.goto 11, 3) := by decide +kernel
theorem dL_ahead_355 : decode cL_ahead 355 = .ok (.iload_n 1, 1) := by decide +kernel
theorem dL_ahead_356 : decode cL_ahead 356 = .ok (.sipush 400, 3) := by decide +kernel
theorem dL_ahead_359 : decode cL_ahead 359 = .ok (.idiv, 1) := by decide +kernel
theorem dL_ahead_360 : decode cL_ahead 360 = .ok (.iload 4, 2) := by decide +kernel
theorem dL_ahead_362 : decode cL_ahead 362 = .ok (.irem, 1) := by decide +kernel
theorem dL_ahead_363 : decode cL_ahead 363 = .ok (.istore 9, 2) := by decide +kernel
theorem dL_ahead_365 : decode cL_ahead 365 = .ok (.aload_n 0, 1) := by decide +kernel
theorem dL_ahead_366 : decode cL_ahead 366 = .ok (.iload 8, 2) := by decide +kernel
theorem dL_ahead_368 : decode cL_ahead 368 = .ok (.iload 9, 2) := by decide +kernel
theorem dL_ahead_370 : decode cL_ahead 370 = .ok (.invokestatic 122, 3) := by decide +kernel
theorem dL_ahead_373 : decode cL_ahead 373 = .ok (.istore 10, 2) := by decide +kernel
theorem dL_ahead_375 : decode cL_ahead 375 = .ok (.iload 10, 2) := by decide +kernel
theorem dL_ahead_377 : decode cL_ahead 377 = .ok (.ifCond .lt 91, 3) := by decide +kernel
theorem dL_ahead_380 : decode cL_ahead 380 = .ok (.iload 7, 2) := by decide +kernel
theorem dL_ahead_382 : decode cL_ahead 382 = .ok (.ifCond .eq 83, 3) := by decide +kernel
theorem dL_ahead_385 : decode cL_ahead 385 = .ok (.iload 10, 2) := by decide +kernel
theorem dL_ahead_387 : decode cL_ahead 387 = .ok (.iload 4, 2) := by decide +kernel
theorem dL_ahead_389 : decode cL_ahead 389 = .ok (.if_icmp .ne 76, 3) := by decide +kernel
theorem dL_ahead_392 : decode cL_ahead 392 = .ok (.aload_n 0, 1) := by decide +kernel
theorem dL_ahead_393 : decode cL_ahead 393 = .ok (.iload 4, 2) := by decide +kernel
theorem dL_ahead_395 : decode cL_ahead 395 = .ok (.invokestatic 103, 3) := by decide +kernel
theorem dL_ahead_398 : decode cL_ahead 398 = .ok (.aload_n 0, 1) := by decide +kernel
theorem dL_ahead_399 : decode cL_ahead 399 = .ok (.iload 8, 2) := by decide +kernel
theorem dL_ahead_401 : decode cL_ahead 401 = .ok (.invokestatic 103, 3) := by decide +kernel
theorem dL_ahead_404 : decode cL_ahead 404 = .ok (.aload_n 0, 1) := by decide +kernel
theorem dL_ahead_405 : decode cL_ahead 405 = .ok (.iload 9, 2) := by decide +kernel
theorem dL_ahead_407 : decode cL_ahead 407 = .ok (.invokestatic 103, 3) := by decide +kernel
theorem dL_ahead_410 : decode cL_ahead 410 = .ok (.ixor, 1) := by decide +kernel
theorem dL_ahead_411 : decode cL_ahead 411 = .ok (.if_icmp .ne 54, 3) := by decide +kernel
theorem dL_ahead_414 : decode cL_ahead 414 = .ok (.aload_n 0, 1) := by decide +kernel
theorem dL_ahead_415 : decode cL_ahead 415 = .ok (.iload 4, 2) := by decide +kernel
theorem dL_ahead_417 : decode cL_ahead 417 = .ok (.invokestatic 106, 3) := by decide +kernel
theorem dL_ahead_420 : decode cL_ahead 420 = .ok (.aload_n 0, 1) := by decide +kernel
theorem dL_ahead_421 : decode cL_ahead 421 = .ok (.iload 8, 2) := by decide +kernel
theorem dL_ahead_423 : decode cL_ahead 423 = .ok (.invokestatic 106, 3) := by decide +kernel
theorem dL_ahead_426 : decode cL_ahead 426 = .ok (.aload_n 0, 1) := by decide +kernel
theorem dL_ahead_427 : decode cL_ahead 427 = .ok (.iload 9, 2) := by decide +kernel
theorem dL_ahead_429 : decode cL_ahead 429 = .ok (.invokestatic 106, 3) := by decide +kernel
theorem dL_ahead_432 : decode cL_ahead 432 = .ok (.ixor, 1) := by decide +kernel
theorem dL_ahead_433 : decode cL_ahead 433 = .ok (.if_icmp .ne 32, 3) := by decide +kernel
theorem dL_ahead_436 : decode cL_ahead 436 = .ok (.aload_n 0, 1) := by decide +kernel
theorem dL_ahead_437 : decode cL_ahead 437 = .ok (.invokevirtual 216, 3) := by decide +kernel
theorem dL_ahead_440 : decode cL_ahead 440 = .ok (.iload 6, 2) := by decide +kernel
theorem dL_ahead_442 : decode cL_ahead 442 = .ok (.if_icmp .ne 23, 3) := by decide +kernel
theorem dL_ahead_445 : decode cL_ahead 445 = .ok (.aload_n 0, 1) := by decide +kernel
theorem dL_ahead_446 : decode cL_ahead 446 = .ok (.invokestatic 171, 3) := by decide +kernel
theorem dL_ahead_449 : decode cL_ahead 449 = .ok (.ifCond .lt 16, 3) := by decide +kernel
theorem dL_ahead_452 : decode cL_ahead 452 = .ok (.aload_n 0, 1) := by decide +kernel
theorem dL_ahead_453 : decode cL_ahead 453 = .ok (.invokestatic 209, 3) := by decide +kernel
theorem dL_ahead_456 : decode cL_ahead 456 = .ok (.lload_n 2, 1) := by decide +kernel
theorem dL_ahead_457 : decode cL_ahead 457 = .ok (.lcmp, 1) := by decide +kernel
theorem dL_ahead_458 : decode cL_ahead 458 = .ok (.ifCond .ne 7, 3) := by decide +kernel
theorem dL_ahead_461 : decode cL_ahead 461 = .ok (.iconst 1, 1) := by decide +kernel
theorem dL_ahead_462 : decode cL_ahead 462 = .ok (.goto 4, 3) := by decide +kernel
theorem dL_ahead_465 : decode cL_ahead 465 = .ok (.iconst 0, 1) := by decide +kernel
theorem dL_ahead_466 : decode cL_ahead 466 = .ok (.istore 7, 2) := by decide +kernel
theorem dL_ahead_468 : decode cL_ahead 468 = .ok (.iload_n 1, 1) := by decide +kernel
theorem dL_ahead_469 : decode cL_ahead 469 = .ok (.sipush 9000, 3) := by decide +kernel
theorem dL_ahead_472 : decode cL_ahead 472 = .ok (.idiv, 1) := by decide +kernel
theorem dL_ahead_473 : decode cL_ahead 473 = .ok (.bipush 8, 2) := by decide +kernel
theorem dL_ahead_475 : decode cL_ahead 475 = .ok (.irem, 1) := by decide +kernel
theorem dL_ahead_476 : decode cL_ahead 476 = .ok (.istore 11, 2) := by decide +kernel
theorem dL_ahead_478 : decode cL_ahead 478 = .ok (.aload_n 0, 1) := by decide +kernel
theorem dL_ahead_479 : decode cL_ahead 479 = .ok (.iload 8, 2) := by decide +kernel
theorem dL_ahead_481 : decode cL_ahead 481 = .ok (.iload 9, 2) := by decide +kernel
theorem dL_ahead_483 : decode cL_ahead 483 = .ok (.iload 11, 2) := by decide +kernel
theorem dL_ahead_485 : decode cL_ahead 485 = .ok (.invokestatic 119, 3) := by decide +kernel
theorem dL_ahead_488 : decode cL_ahead 488 = .ok (.istore 10, 2) := by decide +kernel
theorem dL_ahead_490 : decode cL_ahead 490 = .ok (.iload 10, 2) := by decide +kernel
theorem dL_ahead_492 : decode cL_ahead 492 = .ok (.ifCond .lt 101, 3) := by decide +kernel
theorem dL_ahead_495 : decode cL_ahead 495 = .ok (.iload 7, 2) := by decide +kernel
theorem dL_ahead_497 : decode cL_ahead 497 = .ok (.ifCond .eq 93, 3) := by decide +kernel
theorem dL_ahead_500 : decode cL_ahead 500 = .ok (.iload 10, 2) := by decide +kernel
theorem dL_ahead_502 : decode cL_ahead 502 = .ok (.iload 4, 2) := by decide +kernel
theorem dL_ahead_504 : decode cL_ahead 504 = .ok (.if_icmp .ne 86, 3) := by decide +kernel
theorem dL_ahead_507 : decode cL_ahead 507 = .ok (.aload_n 0, 1) := by decide +kernel
theorem dL_ahead_508 : decode cL_ahead 508 = .ok (.iload 4, 2) := by decide +kernel
theorem dL_ahead_510 : decode cL_ahead 510 = .ok (.invokestatic 103, 3) := by decide +kernel
theorem dL_ahead_513 : decode cL_ahead 513 = .ok (.iconst 1, 1) := by decide +kernel
theorem dL_ahead_514 : decode cL_ahead 514 = .ok (.iload 11, 2) := by decide +kernel
theorem dL_ahead_516 : decode cL_ahead 516 = .ok (.ishl, 1) := by decide +kernel
theorem dL_ahead_517 : decode cL_ahead 517 = .ok (.ior, 1) := by decide +kernel
theorem dL_ahead_518 : decode cL_ahead 518 = .ok (.aload_n 0, 1) := by decide +kernel
theorem dL_ahead_519 : decode cL_ahead 519 = .ok (.iload 8, 2) := by decide +kernel
theorem dL_ahead_521 : decode cL_ahead 521 = .ok (.invokestatic 103, 3) := by decide +kernel
theorem dL_ahead_524 : decode cL_ahead 524 = .ok (.aload_n 0, 1) := by decide +kernel
theorem dL_ahead_525 : decode cL_ahead 525 = .ok (.iload 9, 2) := by decide +kernel
theorem dL_ahead_527 : decode cL_ahead 527 = .ok (.invokestatic 103, 3) := by decide +kernel
theorem dL_ahead_530 : decode cL_ahead 530 = .ok (.ior, 1) := by decide +kernel
theorem dL_ahead_531 : decode cL_ahead 531 = .ok (.if_icmp .ne 59, 3) := by decide +kernel
theorem dL_ahead_534 : decode cL_ahead 534 = .ok (.aload_n 0, 1) := by decide +kernel
theorem dL_ahead_535 : decode cL_ahead 535 = .ok (.iload 4, 2) := by decide +kernel
theorem dL_ahead_537 : decode cL_ahead 537 = .ok (.invokestatic 106, 3) := by decide +kernel
theorem dL_ahead_540 : decode cL_ahead 540 = .ok (.iconst 1, 1) := by decide +kernel
theorem dL_ahead_541 : decode cL_ahead 541 = .ok (.iload 11, 2) := by decide +kernel
theorem dL_ahead_543 : decode cL_ahead 543 = .ok (.ishl, 1) := by decide +kernel
theorem dL_ahead_544 : decode cL_ahead 544 = .ok (.ior, 1) := by decide +kernel
theorem dL_ahead_545 : decode cL_ahead 545 = .ok (.aload_n 0, 1) := by decide +kernel
theorem dL_ahead_546 : decode cL_ahead 546 = .ok (.iload 8, 2) := by decide +kernel
theorem dL_ahead_548 : decode cL_ahead 548 = .ok (.invokestatic 106, 3) := by decide +kernel
theorem dL_ahead_551 : decode cL_ahead 551 = .ok (.aload_n 0, 1) := by decide +kernel
theorem dL_ahead_552 : decode cL_ahead 552 = .ok (.iload 9, 2) := by decide +kernel
theorem dL_ahead_554 : decode cL_ahead 554 = .ok (.invokestatic 106, 3) := by decide +kernel
theorem dL_ahead_557 : decode cL_ahead 557 = .ok (.ior, 1) := by decide +kernel
theorem dL_ahead_558 : decode cL_ahead 558 = .ok (.if_icmp .ne 32, 3) := by decide +kernel
theorem dL_ahead_561 : decode cL_ahead 561 = .ok (.aload_n 0, 1) := by decide +kernel
theorem dL_ahead_562 : decode cL_ahead 562 = .ok (.invokevirtual 216, 3) := by decide +kernel
theorem dL_ahead_565 : decode cL_ahead 565 = .ok (.iload 6, 2) := by decide +kernel
theorem dL_ahead_567 : decode cL_ahead 567 = .ok (.if_icmp .ne 23, 3) := by decide +kernel
theorem dL_ahead_570 : decode cL_ahead 570 = .ok (.aload_n 0, 1) := by decide +kernel
theorem dL_ahead_571 : decode cL_ahead 571 = .ok (.invokestatic 171, 3) := by decide +kernel
theorem dL_ahead_574 : decode cL_ahead 574 = .ok (.ifCond .lt 16, 3) := by decide +kernel
theorem dL_ahead_577 : decode cL_ahead 577 = .ok (.aload_n 0, 1) := by decide +kernel
theorem dL_ahead_578 : decode cL_ahead 578 = .ok (.invokestatic 209, 3) := by decide +kernel
theorem dL_ahead_581 : decode cL_ahead 581 = .ok (.lload_n 2, 1) := by decide +kernel
theorem dL_ahead_582 : decode cL_ahead 582 = .ok (.lcmp, 1) := by decide +kernel
theorem dL_ahead_583 : decode cL_ahead 583 = .ok (.ifCond .ne 7, 3) := by decide +kernel
theorem dL_ahead_586 : decode cL_ahead 586 = .ok (.iconst 1, 1) := by decide +kernel
theorem dL_ahead_587 : decode cL_ahead 587 = .ok (.goto 4, 3) := by decide +kernel
theorem dL_ahead_590 : decode cL_ahead 590 = .ok (.iconst 0, 1) := by decide +kernel
theorem dL_ahead_591 : decode cL_ahead 591 = .ok (.istore 7, 2) := by decide +kernel
theorem dL_ahead_593 : decode cL_ahead 593 = .ok (.iload 7, 2) := by decide +kernel
theorem dL_ahead_595 : decode cL_ahead 595 = .ok (.ifCond .eq 56, 3) := by decide +kernel
theorem dL_ahead_598 : decode cL_ahead 598 = .ok (.aload_n 0, 1) := by decide +kernel
theorem dL_ahead_599 : decode cL_ahead 599 = .ok (.iconst 0, 1) := by decide +kernel
theorem dL_ahead_600 : decode cL_ahead 600 = .ok (.invokestatic 129, 3) := by decide +kernel
theorem dL_ahead_603 : decode cL_ahead 603 = .ok (.ifCond .lt 48, 3) := by decide +kernel
theorem dL_ahead_606 : decode cL_ahead 606 = .ok (.aload_n 0, 1) := by decide +kernel
theorem dL_ahead_607 : decode cL_ahead 607 = .ok (.invokevirtual 126, 3) := by decide +kernel
theorem dL_ahead_610 : decode cL_ahead 610 = .ok (.ifCond .ne 41, 3) := by decide +kernel
theorem dL_ahead_613 : decode cL_ahead 613 = .ok (.iload 4, 2) := by decide +kernel
theorem dL_ahead_615 : decode cL_ahead 615 = .ok (.ifCond .eq 32, 3) := by decide +kernel
theorem dL_ahead_618 : decode cL_ahead 618 = .ok (.aload_n 0, 1) := by decide +kernel
theorem dL_ahead_619 : decode cL_ahead 619 = .ok (.iload 8, 2) := by decide +kernel
theorem dL_ahead_621 : decode cL_ahead 621 = .ok (.invokestatic 116, 3) := by decide +kernel
theorem dL_ahead_624 : decode cL_ahead 624 = .ok (.iload 4, 2) := by decide +kernel
theorem dL_ahead_626 : decode cL_ahead 626 = .ok (.iconst 1, 1) := by decide +kernel
theorem dL_ahead_627 : decode cL_ahead 627 = .ok (.isub, 1) := by decide +kernel
theorem dL_ahead_628 : decode cL_ahead 628 = .ok (.if_icmp .ne 23, 3) := by decide +kernel
theorem dL_ahead_631 : decode cL_ahead 631 = .ok (.aload_n 0, 1) := by decide +kernel
theorem dL_ahead_632 : decode cL_ahead 632 = .ok (.invokevirtual 216, 3) := by decide +kernel
theorem dL_ahead_635 : decode cL_ahead 635 = .ok (.iload 6, 2) := by decide +kernel
theorem dL_ahead_637 : decode cL_ahead 637 = .ok (.if_icmp .lt 14, 3) := by decide +kernel
theorem dL_ahead_640 : decode cL_ahead 640 = .ok (.aload_n 0, 1) := by decide +kernel
theorem dL_ahead_641 : decode cL_ahead 641 = .ok (.invokestatic 171, 3) := by decide +kernel
theorem dL_ahead_644 : decode cL_ahead 644 = .ok (.ifCond .lt 7, 3) := by decide +kernel
theorem dL_ahead_647 : decode cL_ahead 647 = .ok (.iconst 1, 1) := by decide +kernel
theorem dL_ahead_648 : decode cL_ahead 648 = .ok (.goto 4, 3) := by decide +kernel
theorem dL_ahead_651 : decode cL_ahead 651 = .ok (.iconst 0, 1) := by decide +kernel
theorem dL_ahead_652 : decode cL_ahead 652 = .ok (.istore 7, 2) := by decide +kernel
theorem dL_ahead_654 : decode cL_ahead 654 = .ok (.iload 7, 2) := by decide +kernel
theorem dL_ahead_656 : decode cL_ahead 656 = .ok (.ifCond .eq 35, 3) := by decide +kernel
theorem dL_ahead_659 : decode cL_ahead 659 = .ok (.aload_n 0, 1) := by decide +kernel
theorem dL_ahead_660 : decode cL_ahead 660 = .ok (.iconst 1, 1) := by decide +kernel
theorem dL_ahead_661 : decode cL_ahead 661 = .ok (.invokestatic 146, 3) := by decide +kernel
theorem dL_ahead_664 : decode cL_ahead 664 = .ok (.iload 4, 2) := by decide +kernel
theorem dL_ahead_666 : decode cL_ahead 666 = .ok (.if_icmp .ne 25, 3) := by decide +kernel
theorem dL_ahead_669 : decode cL_ahead 669 = .ok (.aload_n 0, 1) := by decide +kernel
theorem dL_ahead_670 : decode cL_ahead 670 = .ok (.invokestatic 209, 3) := by decide +kernel
theorem dL_ahead_673 : decode cL_ahead 673 = .ok (.lload_n 2, 1) := by decide +kernel
theorem dL_ahead_674 : decode cL_ahead 674 = .ok (.lcmp, 1) := by decide +kernel
theorem dL_ahead_675 : decode cL_ahead 675 = .ok (.ifCond .ne 16, 3) := by decide +kernel
theorem dL_ahead_678 : decode cL_ahead 678 = .ok (.aload_n 0, 1) := by decide +kernel
theorem dL_ahead_679 : decode cL_ahead 679 = .ok (.invokestatic 171, 3) := by decide +kernel
theorem dL_ahead_682 : decode cL_ahead 682 = .ok (.bipush (-103), 2) := by decide +kernel
theorem dL_ahead_684 : decode cL_ahead 684 = .ok (.if_icmp .ne 7, 3) := by decide +kernel
theorem dL_ahead_687 : decode cL_ahead 687 = .ok (.iconst 1, 1) := by decide +kernel
theorem dL_ahead_688 : decode cL_ahead 688 = .ok (.goto 4, 3) := by decide +kernel
theorem dL_ahead_691 : decode cL_ahead 691 = .ok (.iconst 0, 1) := by decide +kernel
theorem dL_ahead_692 : decode cL_ahead 692 = .ok (.ireturn, 1) := by decide +kernel
theorem dL_law_0 : decode cL_law 0 = .ok (.new 10, 3) := by decide +kernel
theorem dL_law_3 : decode cL_law 3 = .ok (.dup, 1) := by decide +kernel
theorem dL_law_4 : decode cL_law 4 = .ok (.invokespecial 235, 3) := by decide +kernel
theorem dL_law_7 : decode cL_law 7 = .ok (.astore_n 1, 1) := by decide +kernel
theorem dL_law_8 : decode cL_law 8 = .ok (.new 10, 3) := by decide +kernel
theorem dL_law_11 : decode cL_law 11 = .ok (.dup, 1) := by decide +kernel
theorem dL_law_12 : decode cL_law 12 = .ok (.invokespecial 235, 3) := by decide +kernel
theorem dL_law_15 : decode cL_law 15 = .ok (.astore_n 2, 1) := by decide +kernel
theorem dL_law_16 : decode cL_law 16 = .ok (.aload_n 2, 1) := by decide +kernel
theorem dL_law_17 : decode cL_law 17 = .ok (.invokestatic 236, 3) := by decide +kernel
theorem dL_law_20 : decode cL_law 20 = .ok (.istore_n 3, 1) := by decide +kernel
theorem dL_law_21 : decode cL_law 21 = .ok (.iconst 0, 1) := by decide +kernel
theorem dL_law_22 : decode cL_law 22 = .ok (.istore 4, 2) := by decide +kernel
theorem dL_law_24 : decode cL_law 24 = .ok (.iload 4, 2) := by decide +kernel
theorem dL_law_26 : decode cL_law 26 = .ok (.bipush 9, 2) := by decide +kernel
theorem dL_law_28 : decode cL_law 28 = .ok (.if_icmp .ge 115, 3) := by decide +kernel
theorem dL_law_31 : decode cL_law 31 = .ok (.iload_n 3, 1) := by decide +kernel
theorem dL_law_32 : decode cL_law 32 = .ok (.ifCond .eq 111, 3) := by decide +kernel
theorem dL_law_35 : decode cL_law 35 = .ok (.aload_n 0, 1) := by decide +kernel
theorem dL_law_36 : decode cL_law 36 = .ok (.iconst 2, 1) := by decide +kernel
theorem dL_law_37 : decode cL_law 37 = .ok (.iload 4, 2) := by decide +kernel
theorem dL_law_39 : decode cL_law 39 = .ok (.imul, 1) := by decide +kernel
theorem dL_law_40 : decode cL_law 40 = .ok (.invokestatic 240, 3) := by decide +kernel
theorem dL_law_43 : decode cL_law 43 = .ok (.istore 5, 2) := by decide +kernel
theorem dL_law_45 : decode cL_law 45 = .ok (.aload_n 0, 1) := by decide +kernel
theorem dL_law_46 : decode cL_law 46 = .ok (.iconst 2, 1) := by decide +kernel
theorem dL_law_47 : decode cL_law 47 = .ok (.iload 4, 2) := by decide +kernel
theorem dL_law_49 : decode cL_law 49 = .ok (.imul, 1) := by decide +kernel
theorem dL_law_50 : decode cL_law 50 = .ok (.iconst 1, 1) := by decide +kernel
