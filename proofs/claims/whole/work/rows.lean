section
-- ===== PART A: goes FIRST, ahead of the names: the tables' words, and 'selects' of the private methods out of them =====
/-- a private method of a class that the tables say can be made, by its rows of tables_1 -/
def lw_okq (q : MethodName × Nat) : Prop := (q.1.cls ≠ "java/lang/invoke/MethodHandle" ∧ q.1.cls ≠ "java/lang/invoke/VarHandle") ∧ Cond.instantiable q.1.cls q.2 ∈ tables_1 ∧ Cond.privateMethod q.1 ∈ tables_1 ∧ Cond.instanceMethod q.1 ∈ tables_1
theorem lw_p0 : lw_okq (⟨"CnfXorSolver$FormulaText", "startItem", "()V"⟩, 6) := ⟨⟨by decide +kernel, by decide +kernel⟩, List.mem_of_getElem? (i := 27) (by decide +kernel), List.mem_of_getElem? (i := 223) (by decide +kernel), List.mem_of_getElem? (i := 224) (by decide +kernel)⟩
theorem lw_p1 : lw_okq (⟨"CnfXorSolver$FormulaText", "takes", "(I)Z"⟩, 6) := ⟨⟨by decide +kernel, by decide +kernel⟩, List.mem_of_getElem? (i := 27) (by decide +kernel), List.mem_of_getElem? (i := 227) (by decide +kernel), List.mem_of_getElem? (i := 228) (by decide +kernel)⟩
theorem lw_p2 : lw_okq (⟨"CnfXorSolver$FormulaText", "takesFirst", "(I)Z"⟩, 6) := ⟨⟨by decide +kernel, by decide +kernel⟩, List.mem_of_getElem? (i := 27) (by decide +kernel), List.mem_of_getElem? (i := 231) (by decide +kernel), List.mem_of_getElem? (i := 232) (by decide +kernel)⟩
theorem lw_p3 : lw_okq (⟨"CnfXorSolver$FormulaText", "takesClauseLetter", "(I)Z"⟩, 6) := ⟨⟨by decide +kernel, by decide +kernel⟩, List.mem_of_getElem? (i := 27) (by decide +kernel), List.mem_of_getElem? (i := 239) (by decide +kernel), List.mem_of_getElem? (i := 240) (by decide +kernel)⟩
theorem lw_p4 : lw_okq (⟨"CnfXorSolver$FormulaText", "endsItem", "(I)Z"⟩, 6) := ⟨⟨by decide +kernel, by decide +kernel⟩, List.mem_of_getElem? (i := 27) (by decide +kernel), List.mem_of_getElem? (i := 255) (by decide +kernel), List.mem_of_getElem? (i := 256) (by decide +kernel)⟩
theorem lw_p5 : lw_okq (⟨"CnfXorSolver$FormulaText", "takesBit", "(I)Z"⟩, 6) := ⟨⟨by decide +kernel, by decide +kernel⟩, List.mem_of_getElem? (i := 27) (by decide +kernel), List.mem_of_getElem? (i := 264) (by decide +kernel), List.mem_of_getElem? (i := 265) (by decide +kernel)⟩
theorem lw_p6 : lw_okq (⟨"CnfXorSolver$FormulaText", "takesInParity", "(I)Z"⟩, 6) := ⟨⟨by decide +kernel, by decide +kernel⟩, List.mem_of_getElem? (i := 27) (by decide +kernel), List.mem_of_getElem? (i := 268) (by decide +kernel), List.mem_of_getElem? (i := 269) (by decide +kernel)⟩
theorem lw_p7 : lw_okq (⟨"CnfXorSolver$Elimination", "reduced", "(I)I"⟩, 3) := ⟨⟨by decide +kernel, by decide +kernel⟩, List.mem_of_getElem? (i := 168) (by decide +kernel), List.mem_of_getElem? (i := 349) (by decide +kernel), List.mem_of_getElem? (i := 350) (by decide +kernel)⟩
theorem lw_p8 : lw_okq (⟨"CnfXorSolver$Elimination", "insert", "(I)V"⟩, 3) := ⟨⟨by decide +kernel, by decide +kernel⟩, List.mem_of_getElem? (i := 168) (by decide +kernel), List.mem_of_getElem? (i := 354) (by decide +kernel), List.mem_of_getElem? (i := 355) (by decide +kernel)⟩
theorem lw_p9 : lw_okq (⟨"CnfXorSolver$Trail", "propagate", "(LCnfXorSolver$Formula;)V"⟩, 9) := ⟨⟨by decide +kernel, by decide +kernel⟩, List.mem_of_getElem? (i := 94) (by decide +kernel), List.mem_of_getElem? (i := 392) (by decide +kernel), List.mem_of_getElem? (i := 393) (by decide +kernel)⟩
theorem lw_p10 : lw_okq (⟨"CnfXorSolver$Trail", "assign", "(IZI)V"⟩, 9) := ⟨⟨by decide +kernel, by decide +kernel⟩, List.mem_of_getElem? (i := 94) (by decide +kernel), List.mem_of_getElem? (i := 409) (by decide +kernel), List.mem_of_getElem? (i := 410) (by decide +kernel)⟩
theorem lw_p11 : lw_okq (⟨"CnfXorSolver$Trail", "allows", "(I)Z"⟩, 9) := ⟨⟨by decide +kernel, by decide +kernel⟩, List.mem_of_getElem? (i := 94) (by decide +kernel), List.mem_of_getElem? (i := 418) (by decide +kernel), List.mem_of_getElem? (i := 419) (by decide +kernel)⟩
theorem lw_p12 : lw_okq (⟨"CnfXorSolver$Trail", "startLevel", "(I)V"⟩, 9) := ⟨⟨by decide +kernel, by decide +kernel⟩, List.mem_of_getElem? (i := 94) (by decide +kernel), List.mem_of_getElem? (i := 430) (by decide +kernel), List.mem_of_getElem? (i := 431) (by decide +kernel)⟩
theorem lw_p13 : lw_okq (⟨"CnfXorSolver", "decideOpenVariables", "()V"⟩, 8) := ⟨⟨by decide +kernel, by decide +kernel⟩, List.mem_of_getElem? (i := 19) (by decide +kernel), List.mem_of_getElem? (i := 438) (by decide +kernel), List.mem_of_getElem? (i := 439) (by decide +kernel)⟩
theorem lw_p14 : lw_okq (⟨"java/lang/Throwable", "fillInStackTrace", "(I)Ljava/lang/Throwable;"⟩, 6) := ⟨⟨by decide +kernel, by decide +kernel⟩, List.mem_of_getElem? (i := 519) (by decide +kernel), List.mem_of_getElem? (i := 517) (by decide +kernel), List.mem_of_getElem? (i := 518) (by decide +kernel)⟩
theorem lw_p15 : lw_okq (⟨"CnfXorSolver", "rebuild", "()V"⟩, 8) := ⟨⟨by decide +kernel, by decide +kernel⟩, List.mem_of_getElem? (i := 19) (by decide +kernel), List.mem_of_getElem? (i := 585) (by decide +kernel), List.mem_of_getElem? (i := 586) (by decide +kernel)⟩
def lw_privs_1 : List (MethodName × Nat) := [(⟨"CnfXorSolver$FormulaText", "startItem", "()V"⟩, 6), (⟨"CnfXorSolver$FormulaText", "takes", "(I)Z"⟩, 6), (⟨"CnfXorSolver$FormulaText", "takesFirst", "(I)Z"⟩, 6), (⟨"CnfXorSolver$FormulaText", "takesClauseLetter", "(I)Z"⟩, 6), (⟨"CnfXorSolver$FormulaText", "endsItem", "(I)Z"⟩, 6), (⟨"CnfXorSolver$FormulaText", "takesBit", "(I)Z"⟩, 6), (⟨"CnfXorSolver$FormulaText", "takesInParity", "(I)Z"⟩, 6), (⟨"CnfXorSolver$Elimination", "reduced", "(I)I"⟩, 3), (⟨"CnfXorSolver$Elimination", "insert", "(I)V"⟩, 3), (⟨"CnfXorSolver$Trail", "propagate", "(LCnfXorSolver$Formula;)V"⟩, 9), (⟨"CnfXorSolver$Trail", "assign", "(IZI)V"⟩, 9), (⟨"CnfXorSolver$Trail", "allows", "(I)Z"⟩, 9), (⟨"CnfXorSolver$Trail", "startLevel", "(I)V"⟩, 9), (⟨"CnfXorSolver", "decideOpenVariables", "()V"⟩, 8), (⟨"java/lang/Throwable", "fillInStackTrace", "(I)Ljava/lang/Throwable;"⟩, 6), (⟨"CnfXorSolver", "rebuild", "()V"⟩, 8)]
theorem lw_r1 : ∀ q ∈ lw_privs_1, lw_okq q := List.forall_mem_cons.mpr ⟨lw_p0, List.forall_mem_cons.mpr ⟨lw_p1, List.forall_mem_cons.mpr ⟨lw_p2, List.forall_mem_cons.mpr ⟨lw_p3, List.forall_mem_cons.mpr ⟨lw_p4, List.forall_mem_cons.mpr ⟨lw_p5, List.forall_mem_cons.mpr ⟨lw_p6, List.forall_mem_cons.mpr ⟨lw_p7, List.forall_mem_cons.mpr ⟨lw_p8, List.forall_mem_cons.mpr ⟨lw_p9, List.forall_mem_cons.mpr ⟨lw_p10, List.forall_mem_cons.mpr ⟨lw_p11, List.forall_mem_cons.mpr ⟨lw_p12, List.forall_mem_cons.mpr ⟨lw_p13, List.forall_mem_cons.mpr ⟨lw_p14, List.forall_mem_cons.mpr ⟨lw_p15, fun _ h => absurd h List.not_mem_nil⟩⟩⟩⟩⟩⟩⟩⟩⟩⟩⟩⟩⟩⟩⟩⟩
theorem lw_p16 : lw_okq (⟨"CnfXorSolver", "requireConstraint", "(I)V"⟩, 8) := ⟨⟨by decide +kernel, by decide +kernel⟩, List.mem_of_getElem? (i := 19) (by decide +kernel), List.mem_of_getElem? (i := 597) (by decide +kernel), List.mem_of_getElem? (i := 598) (by decide +kernel)⟩
theorem lw_p17 : lw_okq (⟨"CnfXorSolver", "requireRoom", "()V"⟩, 8) := ⟨⟨by decide +kernel, by decide +kernel⟩, List.mem_of_getElem? (i := 19) (by decide +kernel), List.mem_of_getElem? (i := 653) (by decide +kernel), List.mem_of_getElem? (i := 654) (by decide +kernel)⟩
theorem lw_p18 : lw_okq (⟨"CnfXorSolver", "addConstraint", "(I)I"⟩, 8) := ⟨⟨by decide +kernel, by decide +kernel⟩, List.mem_of_getElem? (i := 19) (by decide +kernel), List.mem_of_getElem? (i := 659) (by decide +kernel), List.mem_of_getElem? (i := 660) (by decide +kernel)⟩
theorem lw_p19 : lw_okq (⟨"CnfXorSolver$Memory", "forgetOldest", "()V"⟩, 4) := ⟨⟨by decide +kernel, by decide +kernel⟩, List.mem_of_getElem? (i := 130) (by decide +kernel), List.mem_of_getElem? (i := 667) (by decide +kernel), List.mem_of_getElem? (i := 668) (by decide +kernel)⟩
theorem lw_p20 : lw_okq (⟨"CnfXorSolver", "requireAnalysis", "()V"⟩, 8) := ⟨⟨by decide +kernel, by decide +kernel⟩, List.mem_of_getElem? (i := 19) (by decide +kernel), List.mem_of_getElem? (i := 751) (by decide +kernel), List.mem_of_getElem? (i := 752) (by decide +kernel)⟩
theorem lw_p21 : lw_okq (⟨"CnfXorSolverModel", "refused", "(I)Z"⟩, 26) := ⟨⟨by decide +kernel, by decide +kernel⟩, List.mem_of_getElem? (i := 869) (by decide +kernel), List.mem_of_getElem? (i := 966) (by decide +kernel), List.mem_of_getElem? (i := 967) (by decide +kernel)⟩
theorem lw_p22 : lw_okq (⟨"CnfXorSolverModel", "readText", "()I"⟩, 26) := ⟨⟨by decide +kernel, by decide +kernel⟩, List.mem_of_getElem? (i := 869) (by decide +kernel), List.mem_of_getElem? (i := 978) (by decide +kernel), List.mem_of_getElem? (i := 979) (by decide +kernel)⟩
theorem lw_p23 : lw_okq (⟨"CnfXorSolverModel", "character", "()I"⟩, 26) := ⟨⟨by decide +kernel, by decide +kernel⟩, List.mem_of_getElem? (i := 869) (by decide +kernel), List.mem_of_getElem? (i := 982) (by decide +kernel), List.mem_of_getElem? (i := 983) (by decide +kernel)⟩
theorem lw_p24 : lw_okq (⟨"CnfXorSolverModel", "readParity", "()Z"⟩, 26) := ⟨⟨by decide +kernel, by decide +kernel⟩, List.mem_of_getElem? (i := 869) (by decide +kernel), List.mem_of_getElem? (i := 986) (by decide +kernel), List.mem_of_getElem? (i := 987) (by decide +kernel)⟩
theorem lw_p25 : lw_okq (⟨"CnfXorSolverModel", "readClause", "()Z"⟩, 26) := ⟨⟨by decide +kernel, by decide +kernel⟩, List.mem_of_getElem? (i := 869) (by decide +kernel), List.mem_of_getElem? (i := 998) (by decide +kernel), List.mem_of_getElem? (i := 999) (by decide +kernel)⟩
theorem lw_p26 : lw_okq (⟨"CnfXorSolverModel", "build", "([I)V"⟩, 26) := ⟨⟨by decide +kernel, by decide +kernel⟩, List.mem_of_getElem? (i := 869) (by decide +kernel), List.mem_of_getElem? (i := 1011) (by decide +kernel), List.mem_of_getElem? (i := 1012) (by decide +kernel)⟩
theorem lw_p27 : lw_okq (⟨"CnfXorSolverModel", "propagate", "([I)V"⟩, 26) := ⟨⟨by decide +kernel, by decide +kernel⟩, List.mem_of_getElem? (i := 869) (by decide +kernel), List.mem_of_getElem? (i := 1015) (by decide +kernel), List.mem_of_getElem? (i := 1016) (by decide +kernel)⟩
theorem lw_p28 : lw_okq (⟨"CnfXorSolverModel", "stateOf", "([II)I"⟩, 26) := ⟨⟨by decide +kernel, by decide +kernel⟩, List.mem_of_getElem? (i := 869) (by decide +kernel), List.mem_of_getElem? (i := 1019) (by decide +kernel), List.mem_of_getElem? (i := 1020) (by decide +kernel)⟩
theorem lw_p29 : lw_okq (⟨"CnfXorSolverModel", "assign", "(IZI)V"⟩, 26) := ⟨⟨by decide +kernel, by decide +kernel⟩, List.mem_of_getElem? (i := 869) (by decide +kernel), List.mem_of_getElem? (i := 1035) (by decide +kernel), List.mem_of_getElem? (i := 1036) (by decide +kernel)⟩
theorem lw_p30 : lw_okq (⟨"CnfXorSolverModel", "isConstraint", "(I)Z"⟩, 26) := ⟨⟨by decide +kernel, by decide +kernel⟩, List.mem_of_getElem? (i := 869) (by decide +kernel), List.mem_of_getElem? (i := 1047) (by decide +kernel), List.mem_of_getElem? (i := 1048) (by decide +kernel)⟩
theorem lw_p31 : lw_okq (⟨"CnfXorSolverModel", "added", "(III)I"⟩, 26) := ⟨⟨by decide +kernel, by decide +kernel⟩, List.mem_of_getElem? (i := 869) (by decide +kernel), List.mem_of_getElem? (i := 1066) (by decide +kernel), List.mem_of_getElem? (i := 1067) (by decide +kernel)⟩
def lw_privs_2 : List (MethodName × Nat) := [(⟨"CnfXorSolver", "requireConstraint", "(I)V"⟩, 8), (⟨"CnfXorSolver", "requireRoom", "()V"⟩, 8), (⟨"CnfXorSolver", "addConstraint", "(I)I"⟩, 8), (⟨"CnfXorSolver$Memory", "forgetOldest", "()V"⟩, 4), (⟨"CnfXorSolver", "requireAnalysis", "()V"⟩, 8), (⟨"CnfXorSolverModel", "refused", "(I)Z"⟩, 26), (⟨"CnfXorSolverModel", "readText", "()I"⟩, 26), (⟨"CnfXorSolverModel", "character", "()I"⟩, 26), (⟨"CnfXorSolverModel", "readParity", "()Z"⟩, 26), (⟨"CnfXorSolverModel", "readClause", "()Z"⟩, 26), (⟨"CnfXorSolverModel", "build", "([I)V"⟩, 26), (⟨"CnfXorSolverModel", "propagate", "([I)V"⟩, 26), (⟨"CnfXorSolverModel", "stateOf", "([II)I"⟩, 26), (⟨"CnfXorSolverModel", "assign", "(IZI)V"⟩, 26), (⟨"CnfXorSolverModel", "isConstraint", "(I)Z"⟩, 26), (⟨"CnfXorSolverModel", "added", "(III)I"⟩, 26)]
theorem lw_r2 : ∀ q ∈ lw_privs_2, lw_okq q := List.forall_mem_cons.mpr ⟨lw_p16, List.forall_mem_cons.mpr ⟨lw_p17, List.forall_mem_cons.mpr ⟨lw_p18, List.forall_mem_cons.mpr ⟨lw_p19, List.forall_mem_cons.mpr ⟨lw_p20, List.forall_mem_cons.mpr ⟨lw_p21, List.forall_mem_cons.mpr ⟨lw_p22, List.forall_mem_cons.mpr ⟨lw_p23, List.forall_mem_cons.mpr ⟨lw_p24, List.forall_mem_cons.mpr ⟨lw_p25, List.forall_mem_cons.mpr ⟨lw_p26, List.forall_mem_cons.mpr ⟨lw_p27, List.forall_mem_cons.mpr ⟨lw_p28, List.forall_mem_cons.mpr ⟨lw_p29, List.forall_mem_cons.mpr ⟨lw_p30, List.forall_mem_cons.mpr ⟨lw_p31, fun _ h => absurd h List.not_mem_nil⟩⟩⟩⟩⟩⟩⟩⟩⟩⟩⟩⟩⟩⟩⟩⟩
theorem lw_p32 : lw_okq (⟨"CnfXorSolverModel", "act", "()V"⟩, 26) := ⟨⟨by decide +kernel, by decide +kernel⟩, List.mem_of_getElem? (i := 869) (by decide +kernel), List.mem_of_getElem? (i := 1070) (by decide +kernel), List.mem_of_getElem? (i := 1071) (by decide +kernel)⟩
theorem lw_p33 : lw_okq (⟨"CnfXorSolverModel", "canLearn", "()Z"⟩, 26) := ⟨⟨by decide +kernel, by decide +kernel⟩, List.mem_of_getElem? (i := 869) (by decide +kernel), List.mem_of_getElem? (i := 1107) (by decide +kernel), List.mem_of_getElem? (i := 1108) (by decide +kernel)⟩
theorem lw_p34 : lw_okq (⟨"CnfXorSolverModel", "analyse", "([I)I"⟩, 26) := ⟨⟨by decide +kernel, by decide +kernel⟩, List.mem_of_getElem? (i := 869) (by decide +kernel), List.mem_of_getElem? (i := 1111) (by decide +kernel), List.mem_of_getElem? (i := 1112) (by decide +kernel)⟩
theorem lw_p35 : lw_okq (⟨"CnfXorSolverModel", "atLevel", "(I)I"⟩, 26) := ⟨⟨by decide +kernel, by decide +kernel⟩, List.mem_of_getElem? (i := 869) (by decide +kernel), List.mem_of_getElem? (i := 1115) (by decide +kernel), List.mem_of_getElem? (i := 1116) (by decide +kernel)⟩
theorem lw_p36 : lw_okq (⟨"CnfXorSolverModel", "latest", "(I)I"⟩, 26) := ⟨⟨by decide +kernel, by decide +kernel⟩, List.mem_of_getElem? (i := 869) (by decide +kernel), List.mem_of_getElem? (i := 1119) (by decide +kernel), List.mem_of_getElem? (i := 1120) (by decide +kernel)⟩
theorem lw_p37 : lw_okq (⟨"CnfXorSolverModel", "everything", "()I"⟩, 26) := ⟨⟨by decide +kernel, by decide +kernel⟩, List.mem_of_getElem? (i := 869) (by decide +kernel), List.mem_of_getElem? (i := 1155) (by decide +kernel), List.mem_of_getElem? (i := 1156) (by decide +kernel)⟩
theorem lw_p38 : lw_okq (⟨"CnfXorSolverModel", "isModel", "(II)Z"⟩, 26) := ⟨⟨by decide +kernel, by decide +kernel⟩, List.mem_of_getElem? (i := 869) (by decide +kernel), List.mem_of_getElem? (i := 1159) (by decide +kernel), List.mem_of_getElem? (i := 1160) (by decide +kernel)⟩
theorem lw_p39 : lw_okq (⟨"CnfXorSolverModel", "implies", "(III)Z"⟩, 26) := ⟨⟨by decide +kernel, by decide +kernel⟩, List.mem_of_getElem? (i := 869) (by decide +kernel), List.mem_of_getElem? (i := 1171) (by decide +kernel), List.mem_of_getElem? (i := 1172) (by decide +kernel)⟩
theorem lw_p40 : lw_okq (⟨"CnfXorSolverModel", "hasModel", "(I)Z"⟩, 26) := ⟨⟨by decide +kernel, by decide +kernel⟩, List.mem_of_getElem? (i := 869) (by decide +kernel), List.mem_of_getElem? (i := 1183) (by decide +kernel), List.mem_of_getElem? (i := 1184) (by decide +kernel)⟩
theorem lw_p41 : lw_okq (⟨"CnfXorSolverModel", "eliminate", "()V"⟩, 26) := ⟨⟨by decide +kernel, by decide +kernel⟩, List.mem_of_getElem? (i := 869) (by decide +kernel), List.mem_of_getElem? (i := 1191) (by decide +kernel), List.mem_of_getElem? (i := 1192) (by decide +kernel)⟩
theorem lw_p42 : lw_okq (⟨"CnfXorSolverModel", "solved", "()I"⟩, 26) := ⟨⟨by decide +kernel, by decide +kernel⟩, List.mem_of_getElem? (i := 869) (by decide +kernel), List.mem_of_getElem? (i := 1207) (by decide +kernel), List.mem_of_getElem? (i := 1208) (by decide +kernel)⟩
def lw_privs_3 : List (MethodName × Nat) := [(⟨"CnfXorSolverModel", "act", "()V"⟩, 26), (⟨"CnfXorSolverModel", "canLearn", "()Z"⟩, 26), (⟨"CnfXorSolverModel", "analyse", "([I)I"⟩, 26), (⟨"CnfXorSolverModel", "atLevel", "(I)I"⟩, 26), (⟨"CnfXorSolverModel", "latest", "(I)I"⟩, 26), (⟨"CnfXorSolverModel", "everything", "()I"⟩, 26), (⟨"CnfXorSolverModel", "isModel", "(II)Z"⟩, 26), (⟨"CnfXorSolverModel", "implies", "(III)Z"⟩, 26), (⟨"CnfXorSolverModel", "hasModel", "(I)Z"⟩, 26), (⟨"CnfXorSolverModel", "eliminate", "()V"⟩, 26), (⟨"CnfXorSolverModel", "solved", "()I"⟩, 26)]
theorem lw_r3 : ∀ q ∈ lw_privs_3, lw_okq q := List.forall_mem_cons.mpr ⟨lw_p32, List.forall_mem_cons.mpr ⟨lw_p33, List.forall_mem_cons.mpr ⟨lw_p34, List.forall_mem_cons.mpr ⟨lw_p35, List.forall_mem_cons.mpr ⟨lw_p36, List.forall_mem_cons.mpr ⟨lw_p37, List.forall_mem_cons.mpr ⟨lw_p38, List.forall_mem_cons.mpr ⟨lw_p39, List.forall_mem_cons.mpr ⟨lw_p40, List.forall_mem_cons.mpr ⟨lw_p41, List.forall_mem_cons.mpr ⟨lw_p42, fun _ h => absurd h List.not_mem_nil⟩⟩⟩⟩⟩⟩⟩⟩⟩⟩⟩
def lw_privs : List (MethodName × Nat) := lw_privs_1 ++ (lw_privs_2 ++ (lw_privs_3))
def lw_tbl : List Cond := k2_sels lw_privs ++ tables_1
theorem lw_privs_ok : ∀ q ∈ lw_privs, lw_okq q := by
  show ∀ q ∈ lw_privs_1 ++ (lw_privs_2 ++ (lw_privs_3)), lw_okq q
  exact List.forall_mem_append.mpr ⟨lw_r1, List.forall_mem_append.mpr ⟨lw_r2, lw_r3⟩⟩
end
section
/-! ===== BEGIN words of one list among another's, by their places ===== -/
theorem goodIn_r {big : List Cond} (ws : List Cond) (ps : List Nat) (hp : ws = ps.filterMap (fun i => big[i]?)) (h : ws.all goodWord = true) : GoodIn big ws := by
  intro w hw
  have h1 := List.all_eq_true.mp h w hw
  rw [hp] at hw
  obtain ⟨i, -, hi⟩ := List.mem_filterMap.mp hw
  have hm : w ∈ big := by first | exact List.mem_of_getElem? hi | exact List.getElem?_mem hi
  exact ⟨hm, good_of_word h1⟩
theorem goodIn_app {big a b : List Cond} (ha : GoodIn big a) (hb : GoodIn big b) : GoodIn big (a ++ b) := fun w h => (List.mem_append.mp h).elim (ha w) (hb w)
theorem goodIn_ca {big a b : List Cond} {c : Cond} (ha : GoodIn big (c :: a)) (hb : GoodIn big b) : GoodIn big (c :: (a ++ b)) := fun w h => (List.mem_cons.mp h).elim (fun e => ha w (List.mem_cons.mpr (Or.inl e))) (fun h => (List.mem_append.mp h).elim (fun h => ha w (List.mem_cons.mpr (Or.inr h))) (hb w))
theorem goodIn_sub {big ws : List Cond} (hm : ∀ w ∈ ws, w ∈ big) (h : ws.all goodWord = true) : GoodIn big ws := fun w hw => ⟨hm w hw, good_of_word (List.all_eq_true.mp h w hw)⟩
/-! ===== END ===== -/

/-! ===== BEGIN exceptions that leave a method, and their catching by the caller (launches without stack traces) ===== -/
section VXA
/-! The laws vx_back, vx_callV, vx_callS, vx_callSW, vx_throw0, vx_throwS follow proofs of the library, with one case more: JvmDerived/Free/Laws.lean (Back.of_free), Shelf42/LK1.lean (callV, callS), Shelf/KitTraced.lean (throwNew0V, throwNewS). -/
/-- where a method has thrown q: the class by its name, the cell, what was written, the world -/
def vx_T (XC : String → State → State → Prop) (st : State) (q : Addr) (t : State) (mc ms : Nat) (free : Addr → Prop) : Prop :=
  ∃ (E : String) (ce : Cell) (L : List Loc), XC E st t ∧ t.heap[q]? = some ce ∧ ce.vm = .none ∧ st.vm.findClass E = some ce.cls ∧ st.WarmedH t.vm ∧ st.sameButNew ({ t with vm := st.vm } : State) L mc ms ∧ ∀ z ∈ L, free z.base
def vx_Q (Qc : Array Value → State → Outcome → State → Prop) (XC : String → State → State → Prop) (mc ms : Nat) (free : Addr → Prop) : Array Value → State → Outcome → State → Prop := fun a st o t =>
  (Qc a st o t ∧ ∃ L, FrameEnd st o t L mc ms ∧ ∀ q ∈ L, free q.base) ∨ ∃ q, o = .threw q ∧ vx_T XC st q t mc ms free
/-- a callee that returns or throws -/
def vx_Met (l : Launch) (y : MethodName) (ws : List Cond) (rm : Room) (Pc : Array Value → State → Prop) (Qc : Array Value → State → Outcome → State → Prop) (XC : String → State → State → Prop) (mc ms : Nat) (free : Addr → Prop) : Prop :=
  MetFree l y (headSpec ws rm) Pc (fun _ _ _ _ _ => True) (vx_Q Qc XC mc ms free)
def vx_Post (XC : String → State → State → Prop) (mc ms : Nat) (free : Addr → Prop) : Pt → Array Value → Addr → Pt → Prop := fun A a q B =>
  ∃ (g : JFrame) (mk : MethodId) (t : State) (L : List Loc) (E : String) (ce : Cell), B.U.heap = t.heap ∧ B.U.vm = t.vm ∧ XC E (A.U.calling g mk a) t ∧ t.heap[q]? = some ce ∧ ce.vm = .none ∧ A.U.vm.findClass E = some ce.cls ∧ B.locs = A.locs ++ L ∧ (∀ z ∈ L, free z.base) ∧ B.cells = A.cells + mc ∧ B.slots = A.slots + ms
def vx_Back (l : Launch) (R : Room) (p : Program) (e : Env) (below : List Frame) (s : State) (sargs : Array Value) (y : MethodName) (len W9 : Nat)
    (Pre : Pt → Array Value → Prop) (Post : Pt → Array Value → Option Value → Pt → Prop) (PostX : Pt → Array Value → Addr → Pt → Prop) : Prop :=
  ∀ (m : MethodId) (meth : Method) (c : Code) (A : Pt) (g : JFrame) (ig : Instr) (mk : MethodId) (a : Array Value),
    Stand p l e R s m sargs below meth c A.U A.locs A.cells A.slots → g.method = m → g.locals.size = c.maxLocals → decode c.code g.pc = .ok (ig, len) →
    2 * g.monitorRoom + (g.stack.map fun v => v.category).sum ≤ W9 → A.U.methodNamed? y = some mk → Pre A a →
    (∃ (v : Option Value) (B : Pt), Stand p l e R s m sargs below meth c B.U B.locs B.cells B.slots ∧ Post A a v B ∧
      Steps p.tables e below (doInvoke e (A.U.setTop g) [] mk a).1 (B.U.setTop { g with pc := g.pc + len, stack := v.toList ++ g.stack })) ∨
    (∃ (q : Addr) (B : Pt), Stand p l e R s m sargs below meth c B.U B.locs B.cells B.slots ∧ PostX A a q B ∧
      Steps p.tables e below (doInvoke e (A.U.setTop g) [] mk a).1 ((B.U.setTop g).pushFrame (.throwing q)))
section Payer
variable {l : Launch} {R : Room} {p : Program} {e : Env} {below : List Frame} {s : State} {sargs : Array Value} {y : MethodName} {len W9 : Nat}
theorem vx_back {ws : List Cond} {rm : Room} {Pc : Array Value → State → Prop} {Qc : Array Value → State → Outcome → State → Prop} {XC : String → State → State → Prop} {mc ms : Nat} {free : Addr → Prop} {bytes : ByteArray} {maxL : Nat} {ret : Option FieldType}
    (hM : vx_Met l y ws rm Pc Qc XC mc ms free) (hblind : FrameBlind Pc) (hrc : rm.cells = mc) (hrs : rm.slots = ms)
    (hframes : rm.frames + 1 ≤ R.frames) (hlocals : W9 + (maxL + 11) + rm.locals ≤ R.locals)
    (hws : ∀ w ∈ ws, ∀ a' U, s.WarmedH U.vm → w.before a' U = true) (hcode : Cond.code y bytes maxL ret ∈ ws) (hinit : ∀ a' U, s.WarmedH U.vm → (Cond.initialized y.cls).before a' U = true) :
    vx_Back l R p e below s sargs y len W9 (PreOf R mc ms Pc) (PostOf Qc mc ms free) (vx_Post XC mc ms free) := by
  intro m meth c A g ig mk a X hg hsize hdg hW hn hp
  have h1 : (headSpec ws rm).pre.before a A.U = true := atoms_intro fun w hw => hws w hw _ _ X.warmed
  have h2 : (Cond.code y bytes maxL ret).before a A.U = true := hws _ hcode _ _ X.warmed
  have h3 : (Cond.initialized y.cls).before a A.U = true := hinit _ _ X.warmed
  have h4 : A.cells + (headSpec ws rm).room.cells ≤ R.cells := by rw [show (headSpec ws rm).room.cells = mc from hrc]; exact hp.1
  have h5 : A.slots + (headSpec ws rm).room.slots ≤ R.slots := by rw [show (headSpec ws rm).room.slots = ms from hrs]; exact hp.2.1
  have hPc : Pc a (A.U.calling g mk a) := hblind _ _ _ _ hp.2.2
  obtain ⟨U, Ls, c0, s0⟩ := A
  dsimp only [Pt.U, Pt.locs, Pt.cells, Pt.slots] at h1 h2 h3 h4 h5 X hn hPc ⊢
  obtain ⟨methY, cY, hmY, hcY, -, hlY, -, -, -, -⟩ := Cond.code_spec hn h2
  obtain ⟨kY, hkY, -⟩ := className_of_methodNamed hn
  have hinitY : kY.init = .initialized := Cond.initialized_spec (findClass_of_methodNamed hn) hkY h3
  have h : At U g.method c below := by rw [hg]; exact X.here
  have hlocals9 : W9 + (maxL + 11) + (headSpec ws rm).room.locals ≤ R.locals := hlocals
  have happ : (headSpec ws rm).appliesLoose y e.platform (U.calling g mk a) = true :=
    Spec.appliesLoose_calling (g := g) h hdg hn hkY hinitY
      (X.room_calling (g := g) (R' := (headSpec ws rm).room) hsize hmY hcY hframes (by rw [hlY]; omega) h4 h5) h1
  obtain ⟨mid, hmid⟩ := h.above
  have hfr : (U.setTop g).frames = (.java g :: mid) ++ below := by rw [State.frames_setTop' g h.top, hmid]; rfl
  obtain ⟨o, s₂, hsteps, -, hend, hq⟩ := Steps.callFree hM p X.admits X.cas X.clock (acts := []) hfr happ hPc trivial
  have hq' : vx_Q Qc XC mc ms free a (U.calling g mk a) o s₂ := hq
  rw [State.frames_setTop' g h.top] at hend
  obtain ⟨g₀, hg0⟩ := Option.isSome_iff_exists.mp h.top
  obtain ⟨r, hr⟩ := State.topJava?_eq_some.mp hg0
  have hr' : (({ U with heap := s₂.heap, slotsUsed := s₂.slotsUsed } : State).setVm s₂.vm).frames = .java g₀ :: r := hr
  rcases hq' with ⟨hqc, L, hfe, hL⟩ | ⟨q, rfl, E, ce, L, hx, hce, hcv, hcl, hW₂, hsm, hL⟩
  · obtain ⟨⟨v, rfl⟩, hW₂, e2, q2, q3, q4, q5, q6⟩ := id hfe
    have e3 : s₂ = ({ (U.calling g mk a).setFrames s₂.frames with heap := s₂.heap, slotsUsed := s₂.slotsUsed } : State).setVm s₂.vm := by
      have : s₂ = ({ s₂ with vm := (U.calling g mk a).vm } : State).setVm s₂.vm := rfl
      rw [e2] at this
      exact this
    obtain ⟨c₂, i₂, len₂, hc₂, hd₂, hf₂⟩ := hend
    have hW' : U.WarmedH s₂.vm := hW₂
    have hcc : c₂ = c := by
      have h1 : s₂.code? g.method = U.code? g.method := by
        rw [State.code?_eq, State.code?_eq, hW'.alike.method?]
      exact Option.some.inj (hc₂.symm.trans (h1.trans h.code))
    subst hcc
    have hlen : len₂ = len := by rw [hdg] at hd₂; cases hd₂; rfl
    subst hlen
    have hs₂ : s₂ = (({ U with heap := s₂.heap, slotsUsed := s₂.slotsUsed } : State).setVm s₂.vm).setTop { g with pc := g.pc + len₂, stack := v.toList ++ g.stack } := by
      refine e3.trans ?_
      rw [hf₂, State.calling_eq h.top, State.setFrames_setFrames, State.setTop_of_frames _ hr', hr]
      rfl
    have hsame : U.sameButNew ({ U with heap := s₂.heap, slotsUsed := s₂.slotsUsed } : State) L mc ms := by
      refine ⟨?_, q2, q3, q4, q5, q6⟩
      obtain ⟨t, ht, -⟩ := State.frames_cons hr
      show ({ U with heap := s₂.heap, slotsUsed := s₂.slotsUsed } : State) = { U.setFrames U.frames with heap := s₂.heap, slotsUsed := s₂.slotsUsed }
      rw [State.setFrames_self ht]
    subst hg
    refine Or.inl ⟨v, ⟨(({ U with heap := s₂.heap, slotsUsed := s₂.slotsUsed } : State).setVm s₂.vm), Ls ++ L, c0 + mc, s0 + ms⟩,
      ⟨X.admits, X.cas, X.clock, X.frames, X.room, X.hears, X.method, X.code, (X.here.setHeapUsed s₂.heap s₂.slotsUsed).setVm hW'.alike, X.tail, State.WarmedH.trans X.warmed hW', X.limits, X.bytes, X.same.trans (hsame.setVm s.vm)⟩,
      ⟨g, mk, s₂, L, rfl, rfl, hqc, rfl, hL, rfl, rfl⟩, ?_⟩
    show Steps p.tables e below _ ((({ U with heap := s₂.heap, slotsUsed := s₂.slotsUsed } : State).setVm s₂.vm).setTop { g with pc := g.pc + len₂, stack := v.toList ++ g.stack })
    rw [← hs₂]
    exact hsteps
  · obtain ⟨e2, q2, q3, q4, q5, q6⟩ := id hsm
    have e3 : s₂ = ({ (U.calling g mk a).setFrames s₂.frames with heap := s₂.heap, slotsUsed := s₂.slotsUsed } : State).setVm s₂.vm := by
      have : s₂ = ({ s₂ with vm := (U.calling g mk a).vm } : State).setVm s₂.vm := rfl
      rw [e2] at this
      exact this
    have hf₂ : s₂.frames = .throwing q :: .java g :: U.frames.tail := hend
    have hW' : U.WarmedH s₂.vm := hW₂
    have hs₂ : s₂ = ((({ U with heap := s₂.heap, slotsUsed := s₂.slotsUsed } : State).setVm s₂.vm).setTop g).pushFrame (.throwing q) := by
      refine e3.trans ?_
      rw [hf₂, State.calling_eq h.top, State.setFrames_setFrames, State.pushFrame, State.frames_setTop _ hr', State.setTop_of_frames _ hr', State.setFrames_setFrames, hr]
      rfl
    have hsame : U.sameButNew ({ U with heap := s₂.heap, slotsUsed := s₂.slotsUsed } : State) L mc ms := by
      refine ⟨?_, q2, q3, q4, q5, q6⟩
      obtain ⟨t, ht, -⟩ := State.frames_cons hr
      show ({ U with heap := s₂.heap, slotsUsed := s₂.slotsUsed } : State) = { U.setFrames U.frames with heap := s₂.heap, slotsUsed := s₂.slotsUsed }
      rw [State.setFrames_self ht]
    subst hg
    refine Or.inr ⟨q, ⟨(({ U with heap := s₂.heap, slotsUsed := s₂.slotsUsed } : State).setVm s₂.vm), Ls ++ L, c0 + mc, s0 + ms⟩,
      ⟨X.admits, X.cas, X.clock, X.frames, X.room, X.hears, X.method, X.code, (X.here.setHeapUsed s₂.heap s₂.slotsUsed).setVm hW'.alike, X.tail, State.WarmedH.trans X.warmed hW', X.limits, X.bytes, X.same.trans (hsame.setVm s.vm)⟩,
      ⟨g, mk, s₂, L, E, ce, rfl, rfl, hx, hce, hcv, hcl, rfl, hL, rfl, rfl⟩, ?_⟩
    show Steps p.tables e below _ (((({ U with heap := s₂.heap, slotsUsed := s₂.slotsUsed } : State).setVm s₂.vm).setTop g).pushFrame (.throwing q))
    rw [← hs₂]
    exact hsteps
end Payer
section Calls
variable {p : Program} {l : Launch} {e : Env} {R : Room} {s : State} {m : MethodId} {args : Array Value} {below : List Frame} {meth : Method} {c : Code} {T : State} {locs : List Loc} {cells slots : Nat}
theorem vx_callV (X : Stand p l e R s m args below meth c T locs cells slots) (hexec : p.tables.exec = Jvm.exec) {own C : String} {index : Nat} {y : MethodName} {bytes : ByteArray} {maxL : Nat} {ret : Option FieldType}
    (hown : s.vm.findClass own = some m.cls) (hlink : (Cond.methodLink own index y).before args s = true) (hinst : (Cond.instanceMethod y).before args s = true) (hsel : (Cond.selects C y y).before args s = true)
    (hcode : (Cond.code y bytes maxL ret).before args s = true) (hy : y.cls ≠ "java/lang/invoke/MethodHandle" ∧ y.cls ≠ "java/lang/invoke/VarHandle")
    {W9 : Nat} {Pre : Pt → Array Value → Prop} {Post : Pt → Array Value → Option Value → Pt → Prop} {PostX : Pt → Array Value → Addr → Pt → Prop} (hK : vx_Back l R p e below s args y 3 W9 Pre Post PostX)
    {b : Addr} {cellB : Cell} (hcell : T.heap[b]? = some cellB) (hobj : cellB.vm.isStatics = false) (hcls : s.vm.findClass C = some cellB.cls)
    {g : JFrame} (hg : g.method = m) (hsize : g.locals.size = c.maxLocals) {argsL rest : List Value} (hlen : ∀ sig, parseMethodDescriptor y.desc = some sig → argsL.length = sig.parameters.length)
    (hstack : g.stack = argsL.reverse ++ .ref b :: rest) (hW : 2 * g.monitorRoom + (rest.map fun v => v.category).sum ≤ W9) (hdg : decode c.code g.pc = .ok (.invokevirtual index, 3))
    (hpre : ∀ vm₁, s.WarmedH vm₁ → Pre ⟨T.setVm vm₁, locs, cells, slots⟩ (Value.ref b :: argsL).toArray) :
    (∃ (v : Option Value) (vm₁ : Vm) (B : Pt), s.WarmedH vm₁ ∧ Stand p l e R s m args below meth c B.U B.locs B.cells B.slots ∧ Post ⟨T.setVm vm₁, locs, cells, slots⟩ (Value.ref b :: argsL).toArray v B ∧
      ∀ target, Steps p.tables e below (B.U.setTop { g with pc := g.pc + 3, stack := v.toList ++ rest }) target → Steps p.tables e below (T.setTop g) target) ∨
    (∃ (q : Addr) (vm₁ : Vm) (B : Pt), s.WarmedH vm₁ ∧ Stand p l e R s m args below meth c B.U B.locs B.cells B.slots ∧ PostX ⟨T.setVm vm₁, locs, cells, slots⟩ (Value.ref b :: argsL).toArray q B ∧
      Steps p.tables e below (T.setTop g) ((B.U.setTop { g with stack := rest }).pushFrame (.throwing q))) := by
  obtain ⟨mk, methM, hnamed, hmethM, hstM, habM⟩ := Cond.instanceMethod_spec hinst
  obtain ⟨methM', cM, hmethM', -, -, -, -, -, -, hsigM⟩ := Cond.code_spec hnamed hcode
  cases hmethM.symm.trans hmethM'
  obtain ⟨c2, r2, m2, q1, q2, q3, q4, kP, hkP, hkPi⟩ := Cond.selects_spec hsel
  cases hcls.symm.trans q1
  cases (State.methodFound?_of_named hnamed hy).symm.trans q2
  cases hnamed.symm.trans q3
  have hselP : selectMethod e.platform s.vm cellB.cls mk = .method mk := by rw [Launch.admits_selectMethod X.admits]; exact q4
  obtain ⟨vm₁, X₁, hstep₁⟩ := X.invokevirtual hexec hown hlink hnamed hmethM hstM hkP hkPi hy (a := b) (cell := cellB) hcell
    (fun z h => by rw [h] at hobj; cases hobj) hselP hmethM habM hkP hkPi (g := g) hg (argsL := argsL) (rest := rest) (hlen _ hsigM) hstack hdg
  rcases hK m meth c ⟨T.setVm vm₁, locs, cells, slots⟩ { g with stack := rest } (.invokevirtual index) mk (Value.ref b :: argsL).toArray X₁ hg hsize hdg hW (X₁.named hnamed) (hpre vm₁ X₁.warmed) with ⟨v, B, X', hpost, hsteps⟩ | ⟨q, B, X', hpost, hsteps⟩
  · exact Or.inl ⟨v, vm₁, B, X₁.warmed, X', hpost, fun target h => hstep₁ _ fun acts => by rw [doInvoke_state]; exact hsteps.trans h⟩
  · exact Or.inr ⟨q, vm₁, B, X₁.warmed, X', hpost, hstep₁ _ fun acts => by rw [doInvoke_state]; exact hsteps⟩
theorem vx_callS (X : Stand p l e R s m args below meth c T locs cells slots) (hexec : p.tables.exec = Jvm.exec) {own : String} {index : Nat} {y : MethodName} {bytes : ByteArray} {maxL : Nat} {ret : Option FieldType}
    (hown : s.vm.findClass own = some m.cls) (hlink : (Cond.methodLink own index y).before args s = true) (hstat : (Cond.static y).before args s = true) (hinit : (Cond.initialized y.cls).before args s = true)
    (hcode : (Cond.code y bytes maxL ret).before args s = true) (hy : y.cls ≠ "java/lang/invoke/MethodHandle" ∧ y.cls ≠ "java/lang/invoke/VarHandle")
    {W9 : Nat} {Pre : Pt → Array Value → Prop} {Post : Pt → Array Value → Option Value → Pt → Prop} {PostX : Pt → Array Value → Addr → Pt → Prop} (hK : vx_Back l R p e below s args y 3 W9 Pre Post PostX)
    {g : JFrame} (hg : g.method = m) (hsize : g.locals.size = c.maxLocals) {argsL rest : List Value} (hlen : ∀ sig, parseMethodDescriptor y.desc = some sig → argsL.length = sig.parameters.length)
    (hstack : g.stack = argsL.reverse ++ rest) (hW : 2 * g.monitorRoom + (rest.map fun v => v.category).sum ≤ W9) (hdg : decode c.code g.pc = .ok (.invokestatic index, 3))
    (hpre : ∀ vm₁, s.WarmedH vm₁ → Pre ⟨T.setVm vm₁, locs, cells, slots⟩ argsL.toArray) :
    (∃ (v : Option Value) (vm₁ : Vm) (B : Pt), s.WarmedH vm₁ ∧ Stand p l e R s m args below meth c B.U B.locs B.cells B.slots ∧ Post ⟨T.setVm vm₁, locs, cells, slots⟩ argsL.toArray v B ∧
      ∀ target, Steps p.tables e below (B.U.setTop { g with pc := g.pc + 3, stack := v.toList ++ rest }) target → Steps p.tables e below (T.setTop g) target) ∨
    (∃ (q : Addr) (vm₁ : Vm) (B : Pt), s.WarmedH vm₁ ∧ Stand p l e R s m args below meth c B.U B.locs B.cells B.slots ∧ PostX ⟨T.setVm vm₁, locs, cells, slots⟩ argsL.toArray q B ∧
      Steps p.tables e below (T.setTop g) ((B.U.setTop { g with stack := rest }).pushFrame (.throwing q))) := by
  obtain ⟨mk, hnamed⟩ := Cond.code_named hcode
  obtain ⟨methM, cM, hmethM, -, -, -, -, -, -, hsigM⟩ := Cond.code_spec hnamed hcode
  have hstatic : methM.isStatic = true := Cond.static_spec hnamed hmethM hstat
  obtain ⟨kP, hkP, -⟩ := className_of_methodNamed hnamed
  have hinitP : kP.init = .initialized := Cond.initialized_spec (findClass_of_methodNamed hnamed) hkP hinit
  obtain ⟨vm₁, X₁, hstep₁⟩ := X.invokestatic hexec hown hlink hnamed hmethM hstatic hkP hinitP hy (g := g) hg (argsL := argsL) (rest := rest) (hlen _ hsigM) hstack hdg
  rcases hK m meth c ⟨T.setVm vm₁, locs, cells, slots⟩ { g with stack := rest } (.invokestatic index) mk argsL.toArray X₁ hg hsize hdg hW (X₁.named hnamed) (hpre vm₁ X₁.warmed) with ⟨v, B, X', hpost, hsteps⟩ | ⟨q, B, X', hpost, hsteps⟩
  · exact Or.inl ⟨v, vm₁, B, X₁.warmed, X', hpost, fun target h => hstep₁ _ fun acts => by rw [doInvoke_state]; exact hsteps.trans h⟩
  · exact Or.inr ⟨q, vm₁, B, X₁.warmed, X', hpost, hstep₁ _ fun acts => by rw [doInvoke_state]; exact hsteps⟩
end Calls
theorem vx_cls {s : State} {T : State} {vm₁ : Vm} {E : String} {k : ClassId} (hW : s.WarmedH vm₁) (h : (T.setVm vm₁).vm.findClass E = some k) : s.vm.findClass E = some k := by
  have h1 : vm₁.findClass E = some k := h
  rw [hW.alike.findClass] at h1
  exact h1
/-- the method's frame g, with q thrown over it -/
def vx_W (p : Program) (l : Launch) (e : Env) (R : Room) (s : State) (m : MethodId) (args : Array Value) (below : List Frame) (meth : Method) (c : Code) (H : Heap) (locs : List Loc) (cells slots : Nat) (Q : State → Prop) (g : JFrame) (q : Addr) : Prop :=
  ∀ T : State, T.heap = H → Stand p l e R s m args below meth c T locs cells slots → ∃ t, Steps p.tables e below ((T.setTop g).pushFrame (.throwing q)) t ∧ Q t
def vx_Run (p : Program) (l : Launch) (e : Env) (R : Room) (s : State) (m : MethodId) (args : Array Value) (below : List Frame) (meth : Method) (c : Code) (H : Heap) (locs : List Loc) (cells slots mc ms : Nat) (g : JFrame) (rest : List Value) (Qa : State → Outcome → State → Prop) (XC : String → State → State → Prop) (free : Addr → Prop) : Prop :=
  ∀ T : State, T.heap = H → Stand p l e R s m args below meth c T locs cells slots →
    (∃ (v : Option Value) (st₀ t T' : State) (L : List Loc), st₀.heap = H ∧ Stand p l e R s m args below meth c T' (locs ++ L) (cells + mc) (slots + ms) ∧ (∀ q ∈ L, free q.base) ∧ T'.heap = t.heap ∧ T'.vm = t.vm ∧ Qa st₀ (.returned v) t ∧
      Goes p e below T g T' { g with pc := g.pc + 3, stack := v.toList ++ rest }) ∨
    (∃ (q : Addr) (st₀ t T' : State) (L : List Loc) (E : String) (ce : Cell), st₀.heap = H ∧ Stand p l e R s m args below meth c T' (locs ++ L) (cells + mc) (slots + ms) ∧ (∀ z ∈ L, free z.base) ∧ T'.heap = t.heap ∧ T'.vm = t.vm ∧ XC E st₀ t ∧ t.heap[q]? = some ce ∧ ce.vm = .none ∧ s.vm.findClass E = some ce.cls ∧
      Steps p.tables e below (T.setTop g) ((T'.setTop { g with stack := rest }).pushFrame (.throwing q)))
def vx_X {S : Type} (px : S → Prop) (B : String → S → State → Prop) (A : Nat → Prop) : String → State → State → Prop := fun E st t => ∃ u : S, px u ∧ B E u t ∧ va_F A st t
section Runs
variable {p : Program} {l : Launch} {e : Env} {R : Room} {s : State} {m : MethodId} {args : Array Value} {below : List Frame} {meth : Method} {c : Code} {H : Heap} {locs : List Loc} {cells slots : Nat}
variable {y : MethodName} {bytes cc : ByteArray} {maxL nL mc ms n index : Nat} {ret : Option FieldType} {ws : List Cond} {rm : Room} {Pc : Array Value → State → Prop} {Qc : Array Value → State → Outcome → State → Prop} {XC : String → State → State → Prop} {free : Addr → Prop} {Ts : List Cond} {own C : String} {b : Addr} {As rest : List Value} {g : JFrame}
theorem vx_callBack (cb : CallB R s args own index y bytes maxL ret ws rm mc ms n) (hM : vx_Met l y ws rm Pc Qc XC mc ms free) (hbl : FrameBlind Pc) : vx_Back l R p e below s args y 3 8 (PreOf R mc ms Pc) (PostOf Qc mc ms free) (vx_Post XC mc ms free) := by
  obtain ⟨hrc, hrs, hfr, hlo, hws, hcw, -, hini, -⟩ := cb
  exact vx_back (bytes := bytes) (maxL := maxL) (ret := ret) hM hbl hrc hrs hfr hlo hws hcw (fun a' U hW => word_at hW (Or.inl (by first | rfl | simp [Cond.onTables, Cond.keeps, Cond.steady])) hini)
theorem vx_runV (S : CallFix p m c cc nL s args Ts own) (hM : vx_Met l y ws rm Pc Qc XC mc ms free) (cw : CallW R s args own C index y bytes maxL ret ws rm mc ms n) (hp : PreV s H C b Pc As)
    (hg : g.method = m) (hn : As.length = n) (hsize : g.locals.size = nL) (hstack : g.stack = As.reverse ++ .ref b :: rest) (hW : 2 * g.monitorRoom + (rest.map fun v => v.category).sum ≤ 8) (hdg : decode cc g.pc = .ok (.invokevirtual index, 3)) (hf : cells + mc ≤ R.cells ∧ slots + ms ≤ R.slots) :
    vx_Run p l e R s m args below meth c H locs cells slots mc ms g rest (Qc (Value.ref b :: As).toArray) XC free := by
  have hK : vx_Back l R p e below s args y 3 8 (PreOf R mc ms Pc) (PostOf Qc mc ms free) (vx_Post XC mc ms free) := vx_callBack cw.1 hM hp.1
  obtain ⟨⟨-, -, -, -, -, -, hcode, -, hy, hlen, hl⟩, hin, hse⟩ := cw
  obtain ⟨hx, hb, hml, ho, -⟩ := S
  obtain ⟨-, ⟨cellB, hcB, hoB, hclB⟩, hPc⟩ := hp
  intro T hT X
  rcases vx_callV X hx (C := C) (bytes := bytes) (maxL := maxL) (ret := ret) ho hl hin hse hcode hy hK (by rw [hT]; exact hcB) hoB hclB hg (hsize.trans hml.symm) (argsL := As) (rest := rest) (fun sig h => hn.trans (hlen sig h)) hstack hW (by rw [hb]; exact hdg)
    (fun vm₁ hW₁ => ⟨hf.1, hf.2, hPc (T.setVm vm₁) hT hW₁⟩) with ⟨v, vm₁, ⟨U', l2, c2, s2⟩, hW₁, X', ⟨g', mk, t, L, e1, e2, hq, h1, hL, h2, h3⟩, st⟩ | ⟨q, vm₁, ⟨U', l2, c2, s2⟩, hW₁, X', ⟨g', mk, t, L, E, ce, e1, e2, hq, hce, hcv, hcl, h1, hL, h2, h3⟩, st⟩
  · dsimp only [Pt.U, Pt.locs, Pt.cells, Pt.slots] at X' e1 e2 h1 h2 h3 st
    subst h1; subst h2; subst h3
    exact Or.inl ⟨v, (T.setVm vm₁).calling g' mk (Value.ref b :: As).toArray, t, U', L, hT, X', hL, e1, e2, hq, st⟩
  · dsimp only [Pt.U, Pt.locs, Pt.cells, Pt.slots] at X' e1 e2 h1 h2 h3 st hcl
    subst h1; subst h2; subst h3
    exact Or.inr ⟨q, (T.setVm vm₁).calling g' mk (Value.ref b :: As).toArray, t, U', L, E, ce, hT, X', hL, e1, e2, hq, hce, hcv, vx_cls hW₁ hcl, st⟩
theorem vx_runS (S : CallFix p m c cc nL s args Ts own) (hM : vx_Met l y ws rm Pc Qc XC mc ms free) (cw : CallB R s args own index y bytes maxL ret ws rm mc ms n ∧ (Cond.static y).before args s = true) (hp : PreS s H Pc As)
    (hg : g.method = m) (hn : As.length = n) (hsize : g.locals.size = nL) (hstack : g.stack = As.reverse ++ rest) (hW : 2 * g.monitorRoom + (rest.map fun v => v.category).sum ≤ 8) (hdg : decode cc g.pc = .ok (.invokestatic index, 3)) (hf : cells + mc ≤ R.cells ∧ slots + ms ≤ R.slots) :
    vx_Run p l e R s m args below meth c H locs cells slots mc ms g rest (Qc As.toArray) XC free := by
  have hK : vx_Back l R p e below s args y 3 8 (PreOf R mc ms Pc) (PostOf Qc mc ms free) (vx_Post XC mc ms free) := vx_callBack cw.1 hM hp.1
  obtain ⟨⟨-, -, -, -, -, -, hcode, hini, hy, hlen, hl⟩, hstt⟩ := cw
  obtain ⟨hx, hb, hml, ho, -⟩ := S
  intro T hT X
  rcases vx_callS X hx (bytes := bytes) (maxL := maxL) (ret := ret) ho hl hstt hini hcode hy hK hg (hsize.trans hml.symm) (argsL := As) (rest := rest) (fun sig h => hn.trans (hlen sig h)) hstack hW (by rw [hb]; exact hdg)
    (fun vm₁ hW₁ => ⟨hf.1, hf.2, hp.2 (T.setVm vm₁) hT hW₁⟩) with ⟨v, vm₁, ⟨U', l2, c2, s2⟩, hW₁, X', ⟨g', mk, t, L, e1, e2, hq, h1, hL, h2, h3⟩, st⟩ | ⟨q, vm₁, ⟨U', l2, c2, s2⟩, hW₁, X', ⟨g', mk, t, L, E, ce, e1, e2, hq, hce, hcv, hcl, h1, hL, h2, h3⟩, st⟩
  · dsimp only [Pt.U, Pt.locs, Pt.cells, Pt.slots] at X' e1 e2 h1 h2 h3 st
    subst h1; subst h2; subst h3
    exact Or.inl ⟨v, (T.setVm vm₁).calling g' mk As.toArray, t, U', L, hT, X', hL, e1, e2, hq, st⟩
  · dsimp only [Pt.U, Pt.locs, Pt.cells, Pt.slots] at X' e1 e2 h1 h2 h3 st hcl
    subst h1; subst h2; subst h3
    exact Or.inr ⟨q, (T.setVm vm₁).calling g' mk As.toArray, t, U', L, E, ce, hT, X', hL, e1, e2, hq, hce, hcv, vx_cls hW₁ hcl, st⟩
end Runs
section Rows
variable {p : Program} {l : Launch} {e : Env} {R : Room} {s : State} {m : MethodId} {args : Array Value} {below : List Frame} {meth : Method} {c : Code} {H : Heap} {locs : List Loc} {cells slots : Nat} {Q : State → Prop}
variable {mc ms : Nat} {free : Addr → Prop} {A0 A1 : Nat → Prop} {H0 : Heap} {a : Array Value} {pc : Nat} {ls : Array Slot} {st0 rest : List Value}
theorem vx_keep {st₀ t T' : State} {L : List Loc} (h0 : st₀.heap = H) (e1 : T'.heap = t.heap) (hS : va_S A0 H0 H locs) (hA : ∀ q, q < H.size → A1 q → A0 q) (hf : ∀ q, free q → A0 q) (hL : ∀ q ∈ L, free q.base) (hF : va_F A1 st₀ t) :
    H.size ≤ T'.heap.size ∧ (∀ q : Nat, q < H.size → ¬ A1 q → T'.heap[q]? = H[q]?) ∧ va_S A0 H0 T'.heap (locs ++ L) := by
  obtain ⟨hz, hk⟩ := hF
  rw [h0] at hz hk
  exact ⟨by rw [e1]; exact hz, fun q h1 h2 => by rw [e1]; exact hk q h1 h2,
    ⟨Nat.le_trans hS.1 (by rw [e1]; exact hz), fun q h1 h2 => by rw [e1, hk q (Nat.lt_of_lt_of_le h1 hS.1) (fun z => h2 (hA q (Nat.lt_of_lt_of_le h1 hS.1) z))]; exact hS.2.1 q h1 h2, fun q hq => by
      rcases List.mem_append.mp hq with h | h
      · exact hS.2.2 q h
      · exact hf _ (hL q h)⟩⟩
theorem vx_calli {S SX : Type} {post : Int32 → S → Prop} {px : SX → Prop} {B : S → State → Prop} {BX : String → SX → State → Prop} {AX : Nat → Prop} (hr : vx_Run p l e R s m args below meth c H locs cells slots mc ms (F0 m pc ls st0) rest (va_Qi post B A1 a) (vx_X px BX AX) free) (hS : va_S A0 H0 H locs) (hA : ∀ q, q < H.size → A1 q → A0 q) (hf : ∀ q, free q → A0 q) (hAX : ∀ q, q < H.size → AX q → A0 q)
    (kx : ∀ (E : String) (ce : Cell) (q9 : Addr) (u : SX) (t : State) (H1 : Heap) (locs1 : List Loc), t.heap = H1 → s.vm.Alike t.vm → px u → BX E u t → H.size ≤ H1.size → (∀ q : Nat, q < H.size → ¬ AX q → H1[q]? = H[q]?) → va_S A0 H0 H1 locs1 → H1[q9]? = some ce → ce.vm = .none → s.vm.findClass E = some ce.cls → vx_W p l e R s m args below meth c H1 locs1 (cells + mc) (slots + ms) Q (F0 m pc ls rest) q9)
    (kk : ∀ (r : Int32) (u : S) (t : State) (H1 : Heap) (locs1 : List Loc), t.heap = H1 → s.vm.Alike t.vm → post r u → B u t → H.size ≤ H1.size → (∀ q : Nat, q < H.size → ¬ A1 q → H1[q]? = H[q]?) → va_S A0 H0 H1 locs1 → W p l e R s m args below meth c H1 locs1 (cells + mc) (slots + ms) Q (F0 m (pc + 3) ls (.int r :: rest))) : W p l e R s m args below meth c H locs cells slots Q (F0 m pc ls st0) := by
  intro T hT X
  rcases hr T hT X with ⟨v, st₀, t, T', L, h0, X', hL, e1, e2, ⟨⟨r, u, hv, hp, hb⟩, hF⟩, st⟩ | ⟨q, st₀, t, T', L, E, ce, h0, X', hL, e1, e2, ⟨u, hp, hb, hF⟩, hce, hcv, hcl, st⟩
  · cases hv
    obtain ⟨k1, k2, k3⟩ := vx_keep h0 e1 hS hA hf hL hF
    obtain ⟨t2, a1, b1⟩ := kk r u t T'.heap (locs ++ L) e1.symm (by rw [← e2]; exact X'.warmed.alike) hp hb k1 k2 k3 T' rfl X'
    exact ⟨t2, st t2 a1, b1⟩
  · obtain ⟨k1, k2, k3⟩ := vx_keep h0 e1 hS hAX hf hL hF
    obtain ⟨t2, a1, b1⟩ := kx E ce q u t T'.heap (locs ++ L) e1.symm (by rw [← e2]; exact X'.warmed.alike) hp hb k1 k2 k3 (by rw [e1]; exact hce) hcv hcl T' rfl X'
    exact ⟨t2, st.trans a1, b1⟩
theorem vx_calll {S SX : Type} {post : Int64 → S → Prop} {px : SX → Prop} {B : S → State → Prop} {BX : String → SX → State → Prop} {AX : Nat → Prop} (hr : vx_Run p l e R s m args below meth c H locs cells slots mc ms (F0 m pc ls st0) rest (va_Ql post B A1 a) (vx_X px BX AX) free) (hS : va_S A0 H0 H locs) (hA : ∀ q, q < H.size → A1 q → A0 q) (hf : ∀ q, free q → A0 q) (hAX : ∀ q, q < H.size → AX q → A0 q)
    (kx : ∀ (E : String) (ce : Cell) (q9 : Addr) (u : SX) (t : State) (H1 : Heap) (locs1 : List Loc), t.heap = H1 → s.vm.Alike t.vm → px u → BX E u t → H.size ≤ H1.size → (∀ q : Nat, q < H.size → ¬ AX q → H1[q]? = H[q]?) → va_S A0 H0 H1 locs1 → H1[q9]? = some ce → ce.vm = .none → s.vm.findClass E = some ce.cls → vx_W p l e R s m args below meth c H1 locs1 (cells + mc) (slots + ms) Q (F0 m pc ls rest) q9)
    (kk : ∀ (r : Int64) (u : S) (t : State) (H1 : Heap) (locs1 : List Loc), t.heap = H1 → s.vm.Alike t.vm → post r u → B u t → H.size ≤ H1.size → (∀ q : Nat, q < H.size → ¬ A1 q → H1[q]? = H[q]?) → va_S A0 H0 H1 locs1 → W p l e R s m args below meth c H1 locs1 (cells + mc) (slots + ms) Q (F0 m (pc + 3) ls (.long r :: rest))) : W p l e R s m args below meth c H locs cells slots Q (F0 m pc ls st0) := by
  intro T hT X
  rcases hr T hT X with ⟨v, st₀, t, T', L, h0, X', hL, e1, e2, ⟨⟨r, u, hv, hp, hb⟩, hF⟩, st⟩ | ⟨q, st₀, t, T', L, E, ce, h0, X', hL, e1, e2, ⟨u, hp, hb, hF⟩, hce, hcv, hcl, st⟩
  · cases hv
    obtain ⟨k1, k2, k3⟩ := vx_keep h0 e1 hS hA hf hL hF
    obtain ⟨t2, a1, b1⟩ := kk r u t T'.heap (locs ++ L) e1.symm (by rw [← e2]; exact X'.warmed.alike) hp hb k1 k2 k3 T' rfl X'
    exact ⟨t2, st t2 a1, b1⟩
  · obtain ⟨k1, k2, k3⟩ := vx_keep h0 e1 hS hAX hf hL hF
    obtain ⟨t2, a1, b1⟩ := kx E ce q u t T'.heap (locs ++ L) e1.symm (by rw [← e2]; exact X'.warmed.alike) hp hb k1 k2 k3 (by rw [e1]; exact hce) hcv hcl T' rfl X'
    exact ⟨t2, st.trans a1, b1⟩
theorem vx_callf {S SX : Type} {post : UInt32 → S → Prop} {px : SX → Prop} {B : S → State → Prop} {BX : String → SX → State → Prop} {AX : Nat → Prop} (hr : vx_Run p l e R s m args below meth c H locs cells slots mc ms (F0 m pc ls st0) rest (va_Qf post B A1 a) (vx_X px BX AX) free) (hS : va_S A0 H0 H locs) (hA : ∀ q, q < H.size → A1 q → A0 q) (hf : ∀ q, free q → A0 q) (hAX : ∀ q, q < H.size → AX q → A0 q)
    (kx : ∀ (E : String) (ce : Cell) (q9 : Addr) (u : SX) (t : State) (H1 : Heap) (locs1 : List Loc), t.heap = H1 → s.vm.Alike t.vm → px u → BX E u t → H.size ≤ H1.size → (∀ q : Nat, q < H.size → ¬ AX q → H1[q]? = H[q]?) → va_S A0 H0 H1 locs1 → H1[q9]? = some ce → ce.vm = .none → s.vm.findClass E = some ce.cls → vx_W p l e R s m args below meth c H1 locs1 (cells + mc) (slots + ms) Q (F0 m pc ls rest) q9)
    (kk : ∀ (r : UInt32) (u : S) (t : State) (H1 : Heap) (locs1 : List Loc), t.heap = H1 → s.vm.Alike t.vm → post r u → B u t → H.size ≤ H1.size → (∀ q : Nat, q < H.size → ¬ A1 q → H1[q]? = H[q]?) → va_S A0 H0 H1 locs1 → W p l e R s m args below meth c H1 locs1 (cells + mc) (slots + ms) Q (F0 m (pc + 3) ls (.float r :: rest))) : W p l e R s m args below meth c H locs cells slots Q (F0 m pc ls st0) := by
  intro T hT X
  rcases hr T hT X with ⟨v, st₀, t, T', L, h0, X', hL, e1, e2, ⟨⟨r, u, hv, hp, hb⟩, hF⟩, st⟩ | ⟨q, st₀, t, T', L, E, ce, h0, X', hL, e1, e2, ⟨u, hp, hb, hF⟩, hce, hcv, hcl, st⟩
  · cases hv
    obtain ⟨k1, k2, k3⟩ := vx_keep h0 e1 hS hA hf hL hF
    obtain ⟨t2, a1, b1⟩ := kk r u t T'.heap (locs ++ L) e1.symm (by rw [← e2]; exact X'.warmed.alike) hp hb k1 k2 k3 T' rfl X'
    exact ⟨t2, st t2 a1, b1⟩
  · obtain ⟨k1, k2, k3⟩ := vx_keep h0 e1 hS hAX hf hL hF
    obtain ⟨t2, a1, b1⟩ := kx E ce q u t T'.heap (locs ++ L) e1.symm (by rw [← e2]; exact X'.warmed.alike) hp hb k1 k2 k3 (by rw [e1]; exact hce) hcv hcl T' rfl X'
    exact ⟨t2, st.trans a1, b1⟩
theorem vx_calld {S SX : Type} {post : UInt64 → S → Prop} {px : SX → Prop} {B : S → State → Prop} {BX : String → SX → State → Prop} {AX : Nat → Prop} (hr : vx_Run p l e R s m args below meth c H locs cells slots mc ms (F0 m pc ls st0) rest (va_Qd post B A1 a) (vx_X px BX AX) free) (hS : va_S A0 H0 H locs) (hA : ∀ q, q < H.size → A1 q → A0 q) (hf : ∀ q, free q → A0 q) (hAX : ∀ q, q < H.size → AX q → A0 q)
    (kx : ∀ (E : String) (ce : Cell) (q9 : Addr) (u : SX) (t : State) (H1 : Heap) (locs1 : List Loc), t.heap = H1 → s.vm.Alike t.vm → px u → BX E u t → H.size ≤ H1.size → (∀ q : Nat, q < H.size → ¬ AX q → H1[q]? = H[q]?) → va_S A0 H0 H1 locs1 → H1[q9]? = some ce → ce.vm = .none → s.vm.findClass E = some ce.cls → vx_W p l e R s m args below meth c H1 locs1 (cells + mc) (slots + ms) Q (F0 m pc ls rest) q9)
    (kk : ∀ (r : UInt64) (u : S) (t : State) (H1 : Heap) (locs1 : List Loc), t.heap = H1 → s.vm.Alike t.vm → post r u → B u t → H.size ≤ H1.size → (∀ q : Nat, q < H.size → ¬ A1 q → H1[q]? = H[q]?) → va_S A0 H0 H1 locs1 → W p l e R s m args below meth c H1 locs1 (cells + mc) (slots + ms) Q (F0 m (pc + 3) ls (.double r :: rest))) : W p l e R s m args below meth c H locs cells slots Q (F0 m pc ls st0) := by
  intro T hT X
  rcases hr T hT X with ⟨v, st₀, t, T', L, h0, X', hL, e1, e2, ⟨⟨r, u, hv, hp, hb⟩, hF⟩, st⟩ | ⟨q, st₀, t, T', L, E, ce, h0, X', hL, e1, e2, ⟨u, hp, hb, hF⟩, hce, hcv, hcl, st⟩
  · cases hv
    obtain ⟨k1, k2, k3⟩ := vx_keep h0 e1 hS hA hf hL hF
    obtain ⟨t2, a1, b1⟩ := kk r u t T'.heap (locs ++ L) e1.symm (by rw [← e2]; exact X'.warmed.alike) hp hb k1 k2 k3 T' rfl X'
    exact ⟨t2, st t2 a1, b1⟩
  · obtain ⟨k1, k2, k3⟩ := vx_keep h0 e1 hS hAX hf hL hF
    obtain ⟨t2, a1, b1⟩ := kx E ce q u t T'.heap (locs ++ L) e1.symm (by rw [← e2]; exact X'.warmed.alike) hp hb k1 k2 k3 (by rw [e1]; exact hce) hcv hcl T' rfl X'
    exact ⟨t2, st.trans a1, b1⟩
theorem vx_callv {S SX : Type} {post : S → Prop} {px : SX → Prop} {B : S → State → Prop} {BX : String → SX → State → Prop} {AX : Nat → Prop} (hr : vx_Run p l e R s m args below meth c H locs cells slots mc ms (F0 m pc ls st0) rest (va_Qv post B A1 a) (vx_X px BX AX) free) (hS : va_S A0 H0 H locs) (hA : ∀ q, q < H.size → A1 q → A0 q) (hf : ∀ q, free q → A0 q) (hAX : ∀ q, q < H.size → AX q → A0 q)
    (kx : ∀ (E : String) (ce : Cell) (q9 : Addr) (u : SX) (t : State) (H1 : Heap) (locs1 : List Loc), t.heap = H1 → s.vm.Alike t.vm → px u → BX E u t → H.size ≤ H1.size → (∀ q : Nat, q < H.size → ¬ AX q → H1[q]? = H[q]?) → va_S A0 H0 H1 locs1 → H1[q9]? = some ce → ce.vm = .none → s.vm.findClass E = some ce.cls → vx_W p l e R s m args below meth c H1 locs1 (cells + mc) (slots + ms) Q (F0 m pc ls rest) q9)
    (kk : ∀ (u : S) (t : State) (H1 : Heap) (locs1 : List Loc), t.heap = H1 → s.vm.Alike t.vm → post u → B u t → H.size ≤ H1.size → (∀ q : Nat, q < H.size → ¬ A1 q → H1[q]? = H[q]?) → va_S A0 H0 H1 locs1 → W p l e R s m args below meth c H1 locs1 (cells + mc) (slots + ms) Q (F0 m (pc + 3) ls (rest))) : W p l e R s m args below meth c H locs cells slots Q (F0 m pc ls st0) := by
  intro T hT X
  rcases hr T hT X with ⟨v, st₀, t, T', L, h0, X', hL, e1, e2, ⟨⟨u, hv, hp, hb⟩, hF⟩, st⟩ | ⟨q, st₀, t, T', L, E, ce, h0, X', hL, e1, e2, ⟨u, hp, hb, hF⟩, hce, hcv, hcl, st⟩
  · cases hv
    obtain ⟨k1, k2, k3⟩ := vx_keep h0 e1 hS hA hf hL hF
    obtain ⟨t2, a1, b1⟩ := kk u t T'.heap (locs ++ L) e1.symm (by rw [← e2]; exact X'.warmed.alike) hp hb k1 k2 k3 T' rfl X'
    exact ⟨t2, st t2 a1, b1⟩
  · obtain ⟨k1, k2, k3⟩ := vx_keep h0 e1 hS hAX hf hL hF
    obtain ⟨t2, a1, b1⟩ := kx E ce q u t T'.heap (locs ++ L) e1.symm (by rw [← e2]; exact X'.warmed.alike) hp hb k1 k2 k3 (by rw [e1]; exact hce) hcv hcl T' rfl X'
    exact ⟨t2, st.trans a1, b1⟩
/-- caught by the row x of this method's table; the rows ahead don't take it -/
theorem vx_catch {own name : String} {E : String} {ce : Cell} {q : Addr} (hown : s.vm.findClass own = some m.cls) (pre : List ExceptionTableEntry) (x : ExceptionTableEntry) (suf : List ExceptionTableEntry) (hsplit : c.exceptionTable.toList = pre ++ x :: suf)
    (hpass : ∀ z ∈ pre, covers z pc = false ∨ (z.catchType ≠ 0 ∧ ∃ nm : String, (Cond.classLink own z.catchType nm).before args s = true ∧ va_Nc E nm s)) (hx : covers x pc = true) (h0 : x.catchType ≠ 0)
    (hlink : (Cond.classLink own x.catchType name).before args s = true) (hcast : (Cond.castable E name).before args s = true) (hcell : H[q]? = some ce) (hv : ce.vm = .none) (hcl : s.vm.findClass E = some ce.cls)
    (kk : W p l e R s m args below meth c H locs cells slots Q (F0 m x.handlerPc ls [.ref q])) : vx_W p l e R s m args below meth c H locs cells slots Q (F0 m pc ls rest) q := by
  intro T hT X
  have hpl : e.platform.magicAccessors = ({} : Platform).magicAccessors := by rw [X.admits.platform]
  obtain ⟨c3, c4, hc3, hc4, hasg⟩ := Cond.castable_spec hcast
  cases Option.some.inj (hc3.symm.trans hcl)
  obtain ⟨c5, hc5, hcl5⟩ := Cond.classLink_spec hown hlink e.platform hpl
  cases Option.some.inj (hc4.symm.trans hc5)
  obtain ⟨vm', X', st⟩ := X.thenCaughtThrough q (g := F0 m pc ls rest) rfl (Steps.refl _) (by rw [hT]; exact hcell) (by rw [hv]; rfl) (by obtain ⟨k9, h9, -⟩ := Vm.findClass_spec hcl; exact ⟨k9, h9⟩) pre x suf hsplit
    (fun z hz => by
      rcases hpass z hz with h | ⟨hz0, nm, hl1, hn1⟩
      · exact Or.inl h
      · obtain ⟨c6, hc6, hcl6⟩ := Cond.classLink_spec hown hl1 e.platform hpl
        obtain ⟨a8, b8, h1, h2, h3⟩ := hn1
        cases Option.some.inj (h1.symm.trans hcl)
        cases Option.some.inj (h2.symm.trans hc6)
        exact Or.inr ⟨hz0, _, hcl6, h3⟩) hx (Or.inr ⟨h0, c4, hcl5, hasg⟩)
  obtain ⟨t, a1, b1⟩ := kk (T.setVm vm') hT X'
  exact ⟨t, st.trans a1, b1⟩
end Rows
section Ends
variable {p : Program} {l : Launch} {e : Env} {R : Room} {s : State} {m : MethodId} {args : Array Value} {below : List Frame} {meth : Method} {c : Code} {H : Heap} {locs : List Loc} {cells slots : Nat} {Q : State → Prop}
variable {mc ms : Nat} {free : Addr → Prop} {A0 A1 : Nat → Prop} {H0 : Heap} {a : Array Value} {ls : Array Slot} {st0 rest : List Value}
variable {Qc : Array Value → State → Outcome → State → Prop} {XC : String → State → State → Prop}
/-- what a body that may throw owes at its end -/
def vx_MQ (below : List Frame) (Qc : Array Value → State → Outcome → State → Prop) (XC : String → State → State → Prop) (a : Array Value) (s : State) (mc ms : Nat) (free : Addr → Prop) : State → Prop := fun t =>
  ∃ o, t.status = .running ∧ Ended t below o ∧ vx_Q Qc XC mc ms free a s o t
theorem vx_ret {g : JFrame} {mc ms : Nat} (k : W p l e R s m args below meth c H locs cells slots (MQ below Qc args s mc ms free) g) : W p l e R s m args below meth c H locs cells slots (vx_MQ below Qc XC args s mc ms free) g := by
  intro T hT X
  obtain ⟨t, a1, o, b1, b2, b3, b4⟩ := k T hT X
  exact ⟨t, a1, o, b1, b2, Or.inl ⟨b3, b4⟩⟩
/-- not caught here: it goes on to the caller -/
theorem vx_widen {g : JFrame} {q : Addr} {k n : Nat} (h1 : cells ≤ k) (h2 : slots ≤ n) (kk : vx_W p l e R s m args below meth c H locs k n Q g q) : vx_W p l e R s m args below meth c H locs cells slots Q g q := fun T hT X => kk T hT (stand_widen X h1 h2)
theorem vx_out {pc : Nat} {E : String} {ce : Cell} {q : Addr} {mc ms : Nat} (hout : ∀ x ∈ c.exceptionTable.toList, covers x pc = false) (hlocks : meth.locks = false) (hcell : H[q]? = some ce) (hv : ce.vm = .none) (hcl : s.vm.findClass E = some ce.cls)
    (hx : ∀ t : State, t.heap = H → s.vm.Alike t.vm → XC E s t) (hf : ∀ z ∈ locs, free z.base) (hc : cells ≤ mc) (hs : slots ≤ ms) :
    vx_W p l e R s m args below meth c H locs cells slots (vx_MQ below Qc XC args s mc ms free) (F0 m pc ls rest) q := by
  intro T hT X
  obtain ⟨st1, hrun, hend, hW, hsm⟩ := X.leaveThrown q (g := F0 m pc ls rest) rfl rfl rfl hout hlocks
  have hcell9 : (T.setFrames (.throwing q :: below)).heap[q]? = some ce := by
    show T.heap[q]? = some ce
    rw [hT]; exact hcell
  exact ⟨_, st1, .threw q, hrun, hend, Or.inr ⟨q, rfl, E, ce, locs, hx _ hT hW.alike, hcell9, hv, hcl, hW, hsm.mono hc hs, hf⟩⟩
theorem vx_frame {U : State} {k n : Nat} (h : s.sameButNew ({ U with vm := s.vm } : State) locs k n) : s.heap.size ≤ U.heap.size ∧ ∀ q : Nat, q < s.heap.size → (∀ z ∈ locs, z.base ≠ q) → U.heap[q]? = s.heap[q]? := by
  obtain ⟨-, h2, -, -, -, h6⟩ := h
  refine ⟨h2, fun q hq hz => ?_⟩
  obtain ⟨c9, e1, e2, e3, e4⟩ := h6 q _ (Array.getElem?_eq_getElem hq)
  have hs : c9.slots = (s.heap[q]).slots := Array.ext_getElem? fun i => e4 i fun hm => hz _ hm rfl
  have h9 : c9 = s.heap[q] := by
    rw [hs] at e2
    exact e2
  have e5 : U.heap[q]? = some c9 := e1
  rw [e5, h9, Array.getElem?_eq_getElem hq]
/-- the words of a throw but the four that speak of the heap -/
def vx_no (w : Cond) : Bool := decide (w ≠ .isRef (.static Bundle.tN "UNASSIGNED_STACK" Bundle.steD)) && decide (w ≠ .isRef (.static Bundle.tN "SUPPRESSED_SENTINEL" Bundle.listD)) && decide (w ≠ .laysStatic Bundle.tN "UNASSIGNED_STACK" Bundle.steD) && decide (w ≠ .laysStatic Bundle.tN "SUPPRESSED_SENTINEL" Bundle.listD)
def vx_at0 (own : String) (ic : Nat) (X : String) (names : List String) : List Cond := (Bundle.ownAtoms0 own ic X names).filter vx_no
def vx_atS (own : String) (ic : Nat) (X : String) (names : List String) : List Cond := (Bundle.ownAtoms own ic X names).filter vx_no
/-- a word that the tables alone decide, or a good one -/
def vx_ot (w : Cond) : Bool := w.onTables || goodWord w
theorem vx_ot_at {args a' : Array Value} {s U : State} {w : Cond} (hW : s.WarmedH U.vm) (hvm : s.vm = U.vm) (hg : vx_ot w = true) (h : w.before args s = true) : w.before a' U = true := by
  simp only [vx_ot, Bool.or_eq_true] at hg
  rcases hg with hg | hg
  · exact va_tabs hg hvm h
  · exact word_at hW (good_of_word hg) h
/-- a list's words: the good ones out of the method's own list, the others by premises of their own -/
theorem vx_hat {args : Array Value} {s : State} {L B : List Cond} (h1 : ∀ w ∈ L.filter goodWord, w.before args s = true) (h2 : ∀ w ∈ L.filter (fun w => !goodWord w), w ∈ B) (h3 : ∀ w ∈ B, w.before args s = true) : ∀ w ∈ L, w.before args s = true := by
  intro w hw
  by_cases g : goodWord w = true
  · exact h1 w (List.mem_filter.mpr ⟨hw, g⟩)
  · refine h3 w (h2 w (List.mem_filter.mpr ⟨hw, ?_⟩))
    show (!goodWord w) = true
    cases hgw : goodWord w
    · rfl
    · exact absurd hgw g
theorem vx_c {args : Array Value} {s : State} {w : Cond} {B : List Cond} (h : w.before args s = true) (t : ∀ w ∈ B, w.before args s = true) : ∀ w' ∈ w :: B, w'.before args s = true := fun w' h' => (List.mem_cons.mp h').elim (fun e => by rw [e]; exact h) (t w')
theorem vx_n {args : Array Value} {s : State} : ∀ w ∈ ([] : List Cond), w.before args s = true := fun _ h => nomatch h
theorem vx_own {args : Array Value} {s : State} {L : List Cond} (h1 : ∀ w ∈ L.filter vx_no, w.before args s = true)
    (hU : (Cond.isRef (.static Bundle.tN "UNASSIGNED_STACK" Bundle.steD)).before args s = true) (hN : (Cond.isRef (.static Bundle.tN "SUPPRESSED_SENTINEL" Bundle.listD)).before args s = true)
    (lU : (Cond.laysStatic Bundle.tN "UNASSIGNED_STACK" Bundle.steD).before args s = true) (lN : (Cond.laysStatic Bundle.tN "SUPPRESSED_SENTINEL" Bundle.listD).before args s = true) : ∀ w ∈ L, w.before args s = true := by
  intro w hw
  by_cases e1 : w = .isRef (.static Bundle.tN "UNASSIGNED_STACK" Bundle.steD)
  · rw [e1]; exact hU
  · by_cases e2 : w = .isRef (.static Bundle.tN "SUPPRESSED_SENTINEL" Bundle.listD)
    · rw [e2]; exact hN
    · by_cases e3 : w = .laysStatic Bundle.tN "UNASSIGNED_STACK" Bundle.steD
      · rw [e3]; exact lU
      · by_cases e4 : w = .laysStatic Bundle.tN "SUPPRESSED_SENTINEL" Bundle.listD
        · rw [e4]; exact lN
        · exact h1 w (List.mem_filter.mpr ⟨hw, by unfold vx_no; rw [decide_eq_true e1, decide_eq_true e2, decide_eq_true e3, decide_eq_true e4]; rfl⟩)
/-- where a static field lies, its class's statics cell in H -/
def vx_L (C n d : String) (A : Nat → Prop) (U : State) (H : Heap) : Prop := ∃ (c : ClassId) (k : Class) (i : Nat) (f : Field) (a : Nat) (cell : Cell), U.vm.findClass C = some c ∧ U.fieldFound? C n d = some (c, k, i, f) ∧ f.isStatic = true ∧ k.statics = some a ∧ H[a]? = some cell ∧ cell.vm.isStatics = true ∧ cell.cls = c ∧ f.slot < cell.slots.size ∧ k.staticTypes[f.slot]? = some f.type ∧ ¬ A a
theorem vx_L.moved {C n d : String} {A : Nat → Prop} {u U : State} {H : Heap} (hvm : u.vm.Alike U.vm) (h : vx_L C n d A u H) : vx_L C n d A U H := by
  obtain ⟨c, k, i, f, a, cell, h1, h2, h3, h4, h5, h6, h7, h8, h9, h10⟩ := h
  obtain ⟨k', hi', he⟩ := State.fieldFound?_setVm hvm h2
  exact ⟨c, k', i, f, a, cell, by rw [hvm.findClass]; exact h1, hi', h3, by rw [he]; exact h4, h5, h6, h7, h8, by rw [he]; exact h9, h10⟩
theorem vx_L.kept {C n d : String} {A : Nat → Prop} {U : State} {H H1 : Heap} (h : vx_L C n d A U H) (hq : ∀ a : Nat, a < H.size → ¬ A a → H1[a]? = H[a]?) : vx_L C n d A U H1 := by
  obtain ⟨c, k, i, f, a, cell, h1, h2, h3, h4, h5, h6, h7, h8, h9, h10⟩ := h
  exact ⟨c, k, i, f, a, cell, h1, h2, h3, h4, by rw [hq a (Array.getElem?_eq_some_iff.mp h5).1 h10]; exact h5, h6, h7, h8, h9, h10⟩
theorem vx_L.narrow {C n d : String} {A B : Nat → Prop} {U : State} {H : Heap} (h : vx_L C n d A U H) (hAB : ∀ q, B q → A q) : vx_L C n d B U H := by
  obtain ⟨c, k, i, f, a, cell, h1, h2, h3, h4, h5, h6, h7, h8, h9, h10⟩ := h
  exact ⟨c, k, i, f, a, cell, h1, h2, h3, h4, h5, h6, h7, h8, h9, fun z => h10 (hAB _ z)⟩
theorem vx_L.word {C n d : String} {A : Nat → Prop} {s : State} {args : Array Value} (h : vx_L C n d A s s.heap) : (Cond.laysStatic C n d).before args s = true := by
  obtain ⟨c, k, i, f, a, cell, h1, h2, h3, h4, h5, h6, h7, h8, h9, -⟩ := h
  show (Cond.laysStatic C n d).holds args s none s [] = true
  exact Cond.laysStatic_of h1 h2 h3 h4 h5 h6 h7 h8 h9
/-- .. and what it holds: null or some reference -/
def vx_Zq (C n d : String) (A : Nat → Prop) (U : State) (H : Heap) : Prop := va_Zq C n d A U H ∧ vx_L C n d A U H
theorem vx_Zq.moved {C n d : String} {A : Nat → Prop} {u U : State} {H : Heap} (hvm : u.vm.Alike U.vm) (h : vx_Zq C n d A u H) : vx_Zq C n d A U H := ⟨va_Zq.moved hvm h.1, vx_L.moved hvm h.2⟩
theorem vx_Zq.kept {C n d : String} {A : Nat → Prop} {U : State} {H H1 : Heap} (h : vx_Zq C n d A U H) (hq : ∀ a : Nat, a < H.size → ¬ A a → H1[a]? = H[a]?) : vx_Zq C n d A U H1 := ⟨va_Zq.kept h.1 hq, vx_L.kept h.2 hq⟩
theorem vx_Zq.narrow {C n d : String} {A B : Nat → Prop} {U : State} {H : Heap} (h : vx_Zq C n d A U H) (hAB : ∀ q, B q → A q) : vx_Zq C n d B U H := ⟨va_Zq.narrow h.1 hAB, vx_L.narrow h.2 hAB⟩
theorem vx_Zqof {args : Array Value} {s : State} {C n d : String} {A : Nat → Prop} (hl : (Cond.laysStatic C n d).before args s = true) (hini : (Cond.initialized C).before args s = true) (h : (Cond.isRef (.static C n d)).before args s = true) (hA : ∀ a : Nat, a < s.heap.size → ¬ A a) : vx_Zq C n d A s s.heap := by
  refine ⟨va_Zqof hl hini h hA, ?_⟩
  obtain ⟨c, k, i, f, a, cell, h1, h2, h3, h4, h5, h6, h7, h8, h9⟩ := Cond.laysStatic_spec hl
  exact ⟨c, k, i, f, a, cell, h1, h2, h3, h4, h5, h6, h7, h8, h9, hA a (Array.getElem?_eq_some_iff.mp h5).1⟩
theorem vx_isRef {C n d : String} {v : Value} {A : Nat → Prop} {s : State} {args : Array Value} (h : va_Z C n d v A s s.heap) (hv : v.isRef = true) : (Cond.isRef (.static C n d)).before args s = true := by
  obtain ⟨cf, kf, fi, f, a, cell, h1, h2, h3, h4, h5, h6, h7, -⟩ := h
  have he : (Term.static C n d).eval args s none [] s = some v := by
    simp [Term.eval, State.fieldNamed?, h1, h2, h4, h5, h6, h7]
  simp only [Cond.before, Cond.holds, Cond.value, he]
  cases v <;> simp_all [Value.isRef]
theorem vx_isRefq {C n d : String} {A : Nat → Prop} {s : State} {args : Array Value} (h : va_Zq C n d A s s.heap) : (Cond.isRef (.static C n d)).before args s = true := by
  rcases h with h | ⟨t, h⟩
  · exact vx_isRef h rfl
  · exact vx_isRef h rfl
/-- the same frame, seen from here: as if the method were called anew in this heap -/
theorem vx_rebase {T : State} (X : Stand p l e R s m args below meth c T locs cells slots) {R' : Room} (hf : R'.frames ≤ R.frames) (hl : R'.locals ≤ R.locals) (hc : cells + R'.cells ≤ R.cells) (hs : slots + R'.slots ≤ R.slots) :
    Stand p l e R' ((T.setVm s.vm).setFrames (.invoking m args :: below)) m args below meth c T [] 0 0 := by
  have htop : (T.setVm s.vm).topJava?.isSome := X.here.top
  have hF : ((T.setVm s.vm).setFrames (.invoking m args :: below)).frames = .invoking m args :: below := State.frames_setFrames _ (State.cur_lt_of_top htop)
  obtain ⟨g₀, hg0⟩ := Option.isSome_iff_exists.mp htop
  obtain ⟨r, hr⟩ := State.topJava?_eq_some.mp hg0
  have hl9 : e.platform.stackLimits (T.setVm s.vm).me = e.platform.stackLimits s.me := X.limits
  have hb9 : (T.setVm s.vm).me.stackBytes = s.me.stackBytes := X.bytes
  refine ⟨X.admits, X.cas, X.clock, hF, ?_, X.hears, X.method, X.code, X.here, X.tail, X.warmed, ?_, ?_, ?_⟩
  · have h := X.room
    have hU : ((T.setVm s.vm).setFrames (.invoking m args :: below)).localsInUse = s.localsInUse := by
      rw [State.localsInUse_invoking hF (meth := meth) (c := c) X.method X.code, State.localsInUse_invoking X.frames X.method X.code]
    simp only [State.hasRoom, Bool.and_eq_true, decide_eq_true_eq] at h ⊢
    obtain ⟨⟨⟨⟨h1, h2, h3, h4, h5, h6⟩, h7⟩, h8⟩, h9⟩ := h
    rw [X.frames, List.length_cons] at h2 h3
    have q1 := X.heapSize
    have q2 := X.used
    simp only [hF, hU, List.length_cons, State.stackLimits_setFrames, State.stackBytes_setFrames, hl9, hb9]
    refine ⟨⟨⟨⟨by omega, by omega, by omega, by omega, by omega, h6⟩, ?_⟩, ?_⟩, X.book⟩
    · show T.heap.size + R'.cells ≤ e.platform.maxCells
      omega
    · show T.slotsUsed + R'.slots ≤ e.platform.maxSlots
      omega
  · rw [State.stackLimits_setFrames]; rfl
  · rw [State.stackBytes_setFrames]; rfl
  · refine ⟨?_, Nat.le_refl _, Nat.le_refl _, ?_, ?_, fun a c9 h9 => ⟨c9, h9, rfl, rfl, fun _ _ => rfl⟩⟩
    · obtain ⟨t, ht, -⟩ := State.frames_cons hr
      show T.setVm s.vm = { ((T.setVm s.vm).setFrames (.invoking m args :: below)).setFrames (T.setVm s.vm).frames with heap := T.heap, slotsUsed := T.slotsUsed }
      rw [State.setFrames_setFrames, State.setFrames_self ht]
      rfl
    · show T.slotsUsed = T.slotsUsed + ((T.heap.toList.drop T.heap.size).map (·.slots.size)).sum
      rw [List.drop_eq_nil_of_le (Nat.le_of_eq Array.length_toList)]
      rfl
    · show ((T.heap.toList.drop T.heap.size).map (·.slots.size)).sum ≤ 0
      rw [List.drop_eq_nil_of_le (Nat.le_of_eq Array.length_toList)]
      exact Nat.le_refl _
/-- 'throw new E()': new; dup; invokespecial; athrow -/
theorem vx_throw0 {cc : ByteArray} {pc : Nat} (hexec : p.tables.exec = Jvm.exec) (hb : c.code = cc) (hl : l.stackTraces = false) {own cls : String} {names : List String} {ik ic mc ms : Nat} {A : Nat → Prop}
    (hown : s.vm.findClass own = some m.cls) (hcls : Bundle.fit cls = true) (hnames : ∀ n ∈ names, Bundle.fit n = true)
    (hk : (Cond.classLink own ik cls).before args s = true) (hini : (Cond.initialized cls).before args s = true) (hat : ∀ w ∈ vx_at0 own ic cls names, w.before args s = true)
    (hgood : ∀ w ∈ Cond.classLink own ik cls :: Cond.initialized cls :: vx_at0 own ic cls names, vx_ot w = true)
    (hU : vx_Zq Bundle.tN "UNASSIGNED_STACK" Bundle.steD A s s.heap) (hN : vx_Zq Bundle.tN "SUPPRESSED_SENTINEL" Bundle.listD A s s.heap) (hS : va_S A s.heap H locs) (hsize : ls.size = c.maxLocals)
    (d0 : decode cc pc = .ok (.new ik, 3)) (d3 : decode cc (pc + 3) = .ok (.dup, 1)) (d4 : decode cc (pc + 4) = .ok (.invokespecial ic, 3)) (d7 : decode cc (pc + 7) = .ok (.athrow, 1))
    (hout : ∀ x ∈ c.exceptionTable.toList, covers x (pc + 7) = false)
    (hRframes : names.length + 3 < R.frames) (hRlocals : (rest.map fun v => v.category).sum + (13 * (names.length + 1) + 42) ≤ R.locals) (hRcells : cells + 1 ≤ R.cells) (hRslots : slots + 6 ≤ R.slots) (hlocks : meth.locks = false)
    (hx : ∀ t : State, s.vm.Alike t.vm → H.size ≤ t.heap.size → (∀ q : Nat, q < H.size → t.heap[q]? = H[q]?) → XC cls s t)
    (hf : ∀ z ∈ locs, free z.base) (hc : cells + 1 ≤ mc) (hs : slots + 6 ≤ ms) :
    W p l e R s m args below meth c H locs cells slots (vx_MQ below Qc XC args s mc ms free) (F0 m pc ls rest) := by
  intro T hT X
  have htr : e.platform.stackTraces = false := (show e.platform.stackTraces = l.stackTraces by rw [X.admits.platform]).trans hl
  have Y := vx_rebase X (R' := { frames := R.frames, locals := R.locals, cells := 1, slots := 6 }) (Nat.le_refl _) (Nat.le_refl _) hRcells hRslots
  obtain ⟨s', hA⟩ : ∃ z, z = (T.setVm s.vm).setFrames (.invoking m args :: below) := ⟨_, rfl⟩
  rw [← hA] at Y
  have hvm : s'.vm = s.vm := by rw [hA]; rfl
  have hhp : s'.heap = H := by rw [hA]; exact hT
  have hW0 : s.WarmedH s'.vm := by rw [hvm]; exact State.WarmedH.refl s
  have hat' : ∀ w ∈ vx_at0 own ic cls names, w.before args s' = true := fun w hw => vx_ot_at hW0 hvm.symm (hgood w (List.mem_cons_of_mem _ (List.mem_cons_of_mem _ hw))) (hat w hw)
  have hk' : (Cond.classLink own ik cls).before args s' = true := vx_ot_at hW0 hvm.symm (hgood _ List.mem_cons_self) hk
  have hini' : (Cond.initialized cls).before args s' = true := vx_ot_at hW0 hvm.symm (hgood _ (List.mem_cons_of_mem _ List.mem_cons_self)) hini
  have hU' : vx_Zq Bundle.tN "UNASSIGNED_STACK" Bundle.steD A s' s'.heap := by rw [hhp]; exact vx_Zq.moved hW0.alike (hU.kept hS.2.1)
  have hN' : vx_Zq Bundle.tN "SUPPRESSED_SENTINEL" Bundle.listD A s' s'.heap := by rw [hhp]; exact vx_Zq.moved hW0.alike (hN.kept hS.2.1)
  have h : ∀ w ∈ Bundle.ownAtoms0 own ic cls names, w.before args s' = true := vx_own hat' (vx_isRefq hU'.1) (vx_isRefq hN'.1) hU'.2.word hN'.2.word
  have hown' : s'.vm.findClass own = some m.cls := by rw [hvm]; exact hown
  have hins : (Cond.instantiable cls 6).before args s' = true := h _ (by simp [Bundle.ownAtoms0])
  obtain ⟨vm₁, cX, kX, hfX, hkX, -, -, X₁, st1⟩ := Y.newCold hexec (own := own) (C := cls) (index := ik) (n := 6) hown' hk' hins hini'
    (g := F0 m pc ls rest) rfl (by rw [hb]; exact d0) (Nat.le_refl _) (Nat.le_refl _)
  generalize hT1 : (T.setVm vm₁).pushCell { cls := cX, slots := kX.instanceTypes.map defaultValue, vm := .none } = T1 at X₁ st1
  have hcat : (Value.ref T.heap.size).category = 1 := rfl
  have hcellA : T1.heap[T.heap.size]? = some (freshCell cX kX) := by rw [← hT1]; exact State.heap_pushCell_size _ _
  have d3' : decode c.code (pc + 3) = .ok (.dup, 1) := by rw [hb]; exact d3
  obtain ⟨U, hsteps, hrun, hend, hW, hsame, ce, hce, hO⟩ := X₁.ctorThrow0 hexec htr (own := own) (cls := cls) (names := names) (ic := ic) hown' hcls hnames h (fun x hx => nomatch hx) hfX hkX hcellA (by rw [hhp, hT]; exact Nat.le_refl _)
    (g := { method := m, pc := pc + 4, locals := ls, stack := .ref T.heap.size :: .ref T.heap.size :: rest, locked := none }) rfl hsize rfl rfl (rest := rest) rfl
    (by rw [hb]; exact d4) (by rw [hb]; exact d7) hout hRframes (by simp only [List.map_cons, List.sum_cons, hcat]; omega) hlocks
  obtain ⟨f1, f2⟩ := vx_frame hsame
  rw [hhp] at f1 f2
  have hWs : s.WarmedH U.vm := State.WarmedH.trans hW0 hW
  have hcl : s.vm.findClass cls = some ce.cls := by
    have h9 := hO.cls
    rw [hvm] at h9
    exact h9
  have hall : s.sameButNew ({ U with vm := s.vm } : State) locs mc ms := by
    subst hA
    obtain ⟨e1, e2⟩ := hsame
    rw [State.setFrames_setFrames] at e1
    have h2 : (T.setVm s.vm).sameButNew ({ U with vm := s.vm } : State) [] (0 + 1) (0 + 6) := ⟨e1, e2⟩
    have h3 := X.same.trans h2
    rw [List.append_nil] at h3
    exact h3.mono hc hs
  refine ⟨U, ?_, .threw T.heap.size, hrun, hend, Or.inr ⟨T.heap.size, rfl, cls, ce, locs, hx U hWs.alike f1 (fun q hq => f2 q hq (fun z hz => nomatch hz)), hce, hO.vm, hcl, hWs, hall, hf⟩⟩
  refine st1 _ ?_
  show Steps p.tables e below (T1.setTop { method := m, pc := pc + 3, locals := ls, stack := .ref T.heap.size :: rest, locked := none }) _
  jvm_step X₁.here [X₁.here.top, hexec, d3', Value.category]
  exact hsteps
/-- 'throw new E("text")': new; dup; ldc; invokespecial; athrow -/
theorem vx_throwS {cc : ByteArray} {pc : Nat} (hexec : p.tables.exec = Jvm.exec) (hb : c.code = cc) (hl : l.stackTraces = false) {own cls text : String} {names : List String} {ik is ic mc ms sa : Nat} {A : Nat → Prop}
    (hown : s.vm.findClass own = some m.cls) (hcls : Bundle.fit cls = true) (hnames : ∀ n ∈ names, Bundle.fit n = true)
    (hk : (Cond.classLink own ik cls).before args s = true) (hini : (Cond.initialized cls).before args s = true) (hstr : vk_R own is text sa s) (hat : ∀ w ∈ vx_atS own ic cls names, w.before args s = true)
    (hgood : ∀ w ∈ Cond.classLink own ik cls :: Cond.initialized cls :: vx_atS own ic cls names, vx_ot w = true)
    (hU : vx_Zq Bundle.tN "UNASSIGNED_STACK" Bundle.steD A s s.heap) (hN : vx_Zq Bundle.tN "SUPPRESSED_SENTINEL" Bundle.listD A s s.heap) (hS : va_S A s.heap H locs) (hsize : ls.size = c.maxLocals)
    (d0 : decode cc pc = .ok (.new ik, 3)) (d3 : decode cc (pc + 3) = .ok (.dup, 1)) (d4 : decode cc (pc + 4) = .ok (.ldc is, 2)) (d6 : decode cc (pc + 6) = .ok (.invokespecial ic, 3)) (d9 : decode cc (pc + 9) = .ok (.athrow, 1))
    (hout : ∀ x ∈ c.exceptionTable.toList, covers x (pc + 9) = false)
    (hRframes : names.length + 3 < R.frames) (hRlocals : (rest.map fun v => v.category).sum + (13 * (names.length + 1) + 43) ≤ R.locals) (hRcells : cells + 1 ≤ R.cells) (hRslots : slots + 6 ≤ R.slots) (hlocks : meth.locks = false)
    (hx : ∀ t : State, s.vm.Alike t.vm → H.size ≤ t.heap.size → (∀ q : Nat, q < H.size → t.heap[q]? = H[q]?) → XC cls s t)
    (hf : ∀ z ∈ locs, free z.base) (hc : cells + 1 ≤ mc) (hs : slots + 6 ≤ ms) :
    W p l e R s m args below meth c H locs cells slots (vx_MQ below Qc XC args s mc ms free) (F0 m pc ls rest) := by
  intro T hT X
  have htr : e.platform.stackTraces = false := (show e.platform.stackTraces = l.stackTraces by rw [X.admits.platform]).trans hl
  have Y := vx_rebase X (R' := { frames := R.frames, locals := R.locals, cells := 1, slots := 6 }) (Nat.le_refl _) (Nat.le_refl _) hRcells hRslots
  obtain ⟨s', hA⟩ : ∃ z, z = (T.setVm s.vm).setFrames (.invoking m args :: below) := ⟨_, rfl⟩
  rw [← hA] at Y
  have hvm : s'.vm = s.vm := by rw [hA]; rfl
  have hhp : s'.heap = H := by rw [hA]; exact hT
  have hW0 : s.WarmedH s'.vm := by rw [hvm]; exact State.WarmedH.refl s
  have hat' : ∀ w ∈ vx_atS own ic cls names, w.before args s' = true := fun w hw => vx_ot_at hW0 hvm.symm (hgood w (List.mem_cons_of_mem _ (List.mem_cons_of_mem _ hw))) (hat w hw)
  have hk' : (Cond.classLink own ik cls).before args s' = true := vx_ot_at hW0 hvm.symm (hgood _ List.mem_cons_self) hk
  have hini' : (Cond.initialized cls).before args s' = true := vx_ot_at hW0 hvm.symm (hgood _ (List.mem_cons_of_mem _ List.mem_cons_self)) hini
  have hU' : vx_Zq Bundle.tN "UNASSIGNED_STACK" Bundle.steD A s' s'.heap := by rw [hhp]; exact vx_Zq.moved hW0.alike (hU.kept hS.2.1)
  have hN' : vx_Zq Bundle.tN "SUPPRESSED_SENTINEL" Bundle.listD A s' s'.heap := by rw [hhp]; exact vx_Zq.moved hW0.alike (hN.kept hS.2.1)
  have h : ∀ w ∈ Bundle.ownAtoms own ic cls names, w.before args s' = true := vx_own hat' (vx_isRefq hU'.1) (vx_isRefq hN'.1) hU'.2.word hN'.2.word
  have hown' : s'.vm.findClass own = some m.cls := by rw [hvm]; exact hown
  have hins : (Cond.instantiable cls 6).before args s' = true := h _ (by simp [Bundle.ownAtoms])
  obtain ⟨vm₁, cX, kX, hfX, hkX, -, -, X₁, st1⟩ := Y.newCold hexec (own := own) (C := cls) (index := ik) (n := 6) hown' hk' hins hini'
    (g := F0 m pc ls rest) rfl (by rw [hb]; exact d0) (Nat.le_refl _) (Nat.le_refl _)
  generalize hT1 : (T.setVm vm₁).pushCell { cls := cX, slots := kX.instanceTypes.map defaultValue, vm := .none } = T1 at X₁ st1
  have hcat : (Value.ref T.heap.size).category = 1 := rfl
  have hcellA : T1.heap[T.heap.size]? = some (freshCell cX kX) := by rw [← hT1]; exact State.heap_pushCell_size _ _
  have d3' : decode c.code (pc + 3) = .ok (.dup, 1) := by rw [hb]; exact d3
  have d4' : decode c.code (pc + 4) = .ok (.ldc is, 2) := by rw [hb]; exact d4
  have hstr' : vk_R own is text sa s' := vk_R.warm hW0 hstr
  obtain ⟨U, hsteps, hrun, hend, hW, hsame, ce, hce, hO⟩ := X₁.ctorThrowS hexec htr (own := own) (cls := cls) (names := names) (ic := ic) hown' hcls hnames h (fun x hx => nomatch hx) hfX hkX hcellA (by rw [hhp, hT]; exact Nat.le_refl _) (msg := .ref sa) rfl
    (g := { method := m, pc := pc + 6, locals := ls, stack := .ref sa :: .ref T.heap.size :: .ref T.heap.size :: rest, locked := none }) rfl hsize rfl rfl (rest := rest) rfl
    (by rw [hb]; exact d6) (by rw [hb]; exact d9) hout hRframes (by simp only [List.map_cons, List.sum_cons, hcat]; omega) hlocks
  obtain ⟨f1, f2⟩ := vx_frame hsame
  rw [hhp] at f1 f2
  have hWs : s.WarmedH U.vm := State.WarmedH.trans hW0 hW
  have hcl : s.vm.findClass cls = some ce.cls := by
    have h9 := hO.cls
    rw [hvm] at h9
    exact h9
  have hall : s.sameButNew ({ U with vm := s.vm } : State) locs mc ms := by
    subst hA
    obtain ⟨e1, e2⟩ := hsame
    rw [State.setFrames_setFrames] at e1
    have h2 : (T.setVm s.vm).sameButNew ({ U with vm := s.vm } : State) [] (0 + 1) (0 + 6) := ⟨e1, e2⟩
    have h3 := X.same.trans h2
    rw [List.append_nil] at h3
    exact h3.mono hc hs
  refine ⟨U, ?_, .threw T.heap.size, hrun, hend, Or.inr ⟨T.heap.size, rfl, cls, ce, locs, hx U hWs.alike f1 (fun q hq => f2 q hq (fun z hz => nomatch hz)), hce, hO.vm, hcl, hWs, hall, hf⟩⟩
  refine st1 _ ?_
  show Steps p.tables e below (T1.setTop { method := m, pc := pc + 3, locals := ls, stack := .ref T.heap.size :: rest, locked := none }) _
  jvm_step X₁.here [X₁.here.top, hexec, d3', Value.category]
  exact X₁.ldcString hexec (own := own) (text := text) (index := is) (a := sa) hown' hstr'.1 hstr'.2
    (g := { method := m, pc := pc + 4, locals := ls, stack := .ref T.heap.size :: .ref T.heap.size :: rest, locked := none }) rfl d4' _ hsteps
/-- 'throw new E("text")', the text by a wide index -/
theorem vx_throwSW {cc : ByteArray} {pc : Nat} (hexec : p.tables.exec = Jvm.exec) (hb : c.code = cc) (hl : l.stackTraces = false) {own cls text : String} {names : List String} {ik is ic mc ms sa : Nat} {A : Nat → Prop}
    (hown : s.vm.findClass own = some m.cls) (hcls : Bundle.fit cls = true) (hnames : ∀ n ∈ names, Bundle.fit n = true)
    (hk : (Cond.classLink own ik cls).before args s = true) (hini : (Cond.initialized cls).before args s = true) (hstr : vk_R own is text sa s) (hat : ∀ w ∈ vx_atS own ic cls names, w.before args s = true)
    (hgood : ∀ w ∈ Cond.classLink own ik cls :: Cond.initialized cls :: vx_atS own ic cls names, vx_ot w = true)
    (hU : vx_Zq Bundle.tN "UNASSIGNED_STACK" Bundle.steD A s s.heap) (hN : vx_Zq Bundle.tN "SUPPRESSED_SENTINEL" Bundle.listD A s s.heap) (hS : va_S A s.heap H locs) (hsize : ls.size = c.maxLocals)
    (d0 : decode cc pc = .ok (.new ik, 3)) (d3 : decode cc (pc + 3) = .ok (.dup, 1)) (d4 : decode cc (pc + 4) = .ok (.ldc_w is, 3)) (d7 : decode cc (pc + 7) = .ok (.invokespecial ic, 3)) (d10 : decode cc (pc + 10) = .ok (.athrow, 1))
    (hout : ∀ x ∈ c.exceptionTable.toList, covers x (pc + 10) = false)
    (hRframes : names.length + 3 < R.frames) (hRlocals : (rest.map fun v => v.category).sum + (13 * (names.length + 1) + 43) ≤ R.locals) (hRcells : cells + 1 ≤ R.cells) (hRslots : slots + 6 ≤ R.slots) (hlocks : meth.locks = false)
    (hx : ∀ t : State, s.vm.Alike t.vm → H.size ≤ t.heap.size → (∀ q : Nat, q < H.size → t.heap[q]? = H[q]?) → XC cls s t)
    (hf : ∀ z ∈ locs, free z.base) (hc : cells + 1 ≤ mc) (hs : slots + 6 ≤ ms) :
    W p l e R s m args below meth c H locs cells slots (vx_MQ below Qc XC args s mc ms free) (F0 m pc ls rest) := by
  intro T hT X
  have htr : e.platform.stackTraces = false := (show e.platform.stackTraces = l.stackTraces by rw [X.admits.platform]).trans hl
  have Y := vx_rebase X (R' := { frames := R.frames, locals := R.locals, cells := 1, slots := 6 }) (Nat.le_refl _) (Nat.le_refl _) hRcells hRslots
  obtain ⟨s', hA⟩ : ∃ z, z = (T.setVm s.vm).setFrames (.invoking m args :: below) := ⟨_, rfl⟩
  rw [← hA] at Y
  have hvm : s'.vm = s.vm := by rw [hA]; rfl
  have hhp : s'.heap = H := by rw [hA]; exact hT
  have hW0 : s.WarmedH s'.vm := by rw [hvm]; exact State.WarmedH.refl s
  have hat' : ∀ w ∈ vx_atS own ic cls names, w.before args s' = true := fun w hw => vx_ot_at hW0 hvm.symm (hgood w (List.mem_cons_of_mem _ (List.mem_cons_of_mem _ hw))) (hat w hw)
  have hk' : (Cond.classLink own ik cls).before args s' = true := vx_ot_at hW0 hvm.symm (hgood _ List.mem_cons_self) hk
  have hini' : (Cond.initialized cls).before args s' = true := vx_ot_at hW0 hvm.symm (hgood _ (List.mem_cons_of_mem _ List.mem_cons_self)) hini
  have hU' : vx_Zq Bundle.tN "UNASSIGNED_STACK" Bundle.steD A s' s'.heap := by rw [hhp]; exact vx_Zq.moved hW0.alike (hU.kept hS.2.1)
  have hN' : vx_Zq Bundle.tN "SUPPRESSED_SENTINEL" Bundle.listD A s' s'.heap := by rw [hhp]; exact vx_Zq.moved hW0.alike (hN.kept hS.2.1)
  have h : ∀ w ∈ Bundle.ownAtoms own ic cls names, w.before args s' = true := vx_own hat' (vx_isRefq hU'.1) (vx_isRefq hN'.1) hU'.2.word hN'.2.word
  have hown' : s'.vm.findClass own = some m.cls := by rw [hvm]; exact hown
  have hins : (Cond.instantiable cls 6).before args s' = true := h _ (by simp [Bundle.ownAtoms])
  obtain ⟨vm₁, cX, kX, hfX, hkX, -, -, X₁, st1⟩ := Y.newCold hexec (own := own) (C := cls) (index := ik) (n := 6) hown' hk' hins hini'
    (g := F0 m pc ls rest) rfl (by rw [hb]; exact d0) (Nat.le_refl _) (Nat.le_refl _)
  generalize hT1 : (T.setVm vm₁).pushCell { cls := cX, slots := kX.instanceTypes.map defaultValue, vm := .none } = T1 at X₁ st1
  have hcat : (Value.ref T.heap.size).category = 1 := rfl
  have hcellA : T1.heap[T.heap.size]? = some (freshCell cX kX) := by rw [← hT1]; exact State.heap_pushCell_size _ _
  have d3' : decode c.code (pc + 3) = .ok (.dup, 1) := by rw [hb]; exact d3
  have d4' : decode c.code (pc + 4) = .ok (.ldc_w is, 3) := by rw [hb]; exact d4
  have hstr' : vk_R own is text sa s' := vk_R.warm hW0 hstr
  obtain ⟨U, hsteps, hrun, hend, hW, hsame, ce, hce, hO⟩ := X₁.ctorThrowS hexec htr (own := own) (cls := cls) (names := names) (ic := ic) hown' hcls hnames h (fun x hx => nomatch hx) hfX hkX hcellA (by rw [hhp, hT]; exact Nat.le_refl _) (msg := .ref sa) rfl
    (g := { method := m, pc := pc + 7, locals := ls, stack := .ref sa :: .ref T.heap.size :: .ref T.heap.size :: rest, locked := none }) rfl hsize rfl rfl (rest := rest) rfl
    (by rw [hb]; exact d7) (by rw [hb]; exact d10) hout hRframes (by simp only [List.map_cons, List.sum_cons, hcat]; omega) hlocks
  obtain ⟨f1, f2⟩ := vx_frame hsame
  rw [hhp] at f1 f2
  have hWs : s.WarmedH U.vm := State.WarmedH.trans hW0 hW
  have hcl : s.vm.findClass cls = some ce.cls := by
    have h9 := hO.cls
    rw [hvm] at h9
    exact h9
  have hall : s.sameButNew ({ U with vm := s.vm } : State) locs mc ms := by
    subst hA
    obtain ⟨e1, e2⟩ := hsame
    rw [State.setFrames_setFrames] at e1
    have h2 : (T.setVm s.vm).sameButNew ({ U with vm := s.vm } : State) [] (0 + 1) (0 + 6) := ⟨e1, e2⟩
    have h3 := X.same.trans h2
    rw [List.append_nil] at h3
    exact h3.mono hc hs
  refine ⟨U, ?_, .threw T.heap.size, hrun, hend, Or.inr ⟨T.heap.size, rfl, cls, ce, locs, hx U hWs.alike f1 (fun q hq => f2 q hq (fun z hz => nomatch hz)), hce, hO.vm, hcl, hWs, hall, hf⟩⟩
  refine st1 _ ?_
  show Steps p.tables e below (T1.setTop { method := m, pc := pc + 3, locals := ls, stack := .ref T.heap.size :: rest, locked := none }) _
  jvm_step X₁.here [X₁.here.top, hexec, d3', Value.category]
  exact X₁.ldcStringW hexec (own := own) (text := text) (index := is) (a := sa) hown' hstr'.1 hstr'.2
    (g := { method := m, pc := pc + 4, locals := ls, stack := .ref T.heap.size :: .ref T.heap.size :: rest, locked := none }) rfl d4' _ hsteps
end Ends
section Bodies
variable {l : Launch}
theorem vx_ofW {y : MethodName} {ws ws' : List Cond} {rm : Room} {Pc : Array Value → State → Prop} {Qc : Array Value → State → Outcome → State → Prop} {XC : String → State → State → Prop} {mc ms : Nat} {free : Addr → Prop} {cc : ByteArray} {maxL : Nat} {ret : Option FieldType}
    (hy : plainName y.cls = true) (hw : ws = Cond.code y cc maxL ret :: ws')
    (body : ∀ p e s m args below meth c s₁, BodyLoose p l y (headSpec ws rm) cc maxL ret e s m args below meth c s₁ → c.maxLocals = maxL → (∀ x ∈ c.exceptionTable.toList, False) → Pc args s →
      W p l e (headSpec ws rm).room s m args below meth c s.heap [] 0 0 (vx_MQ below Qc XC args s mc ms free) (entryFrame m args maxL)) : vx_Met l y ws rm Pc Qc XC mc ms free := by
  refine MetFree.of_bodyS (code := cc) (maxLocals := maxL) (ret := ret) hy ?_ ?_
  · intro args s m h hn
    obtain ⟨meth, c, h1, h2, h3, h4, h5, h6, -, -⟩ := Cond.code_spec hn (atoms_spec (ws := ws) h _ (by rw [hw]; exact List.mem_cons_self))
    exact ⟨meth, c, h1, h2, h3, h4, h5, h6⟩
  · intro p e s m args below meth c s₁ B hml hP _
    have hh0 : s₁.heap = s.heap := by rw [B.state]; rfl
    have ht : ∀ x ∈ c.exceptionTable.toList, False := by
      obtain ⟨meth9, c9, h1, h2, -, -, -, -, h7, -⟩ := Cond.code_spec B.named (atoms_spec (ws := ws) B.pre _ (by rw [hw]; exact List.mem_cons_self))
      cases Option.some.inj (h1.symm.trans B.method)
      cases Option.some.inj (h2.symm.trans (Stand.of_body B).code)
      intro x hx
      rw [Array.isEmpty_iff.mp h7] at hx
      cases hx
    obtain ⟨t, a1, o, b1, b2, b3⟩ := body p e s m args below meth c s₁ B hml ht hP s₁ hh0 (Stand.of_body B)
    exact ⟨t, o, a1, b1, b2, b3⟩
/-- the table of a body with handlers -/
theorem vx_table {p : Program} {x y : MethodName} {S : Spec} {cc bytes : ByteArray} {maxL maxL' : Nat} {ret ret' : Option FieldType} {e : Env} {s s₁ : State} {m : MethodId} {args : Array Value} {below : List Frame} {meth : Method} {c : Code} {hh : List (Nat × Nat × Nat × Nat)}
    (B : BodyLoose p l y S cc maxL ret e s m args below meth c s₁) (h : (Cond.codeWith y bytes maxL' ret' hh).before args s = true) : c.exceptionTable.toList = tableOf hh := by
  obtain ⟨m9, meth9, c9, hn9, h1, h2, -, -, h6, -⟩ := Cond.codeWith_spec h
  cases Option.some.inj (hn9.symm.trans B.named)
  cases Option.some.inj (h1.symm.trans B.method)
  cases Option.some.inj (h2.symm.trans (Stand.of_body B).code)
  rw [← h6, table_eq]
end Bodies
end VXA
/-! ===== END ===== -/
/-! ===== BEGIN a static call of a method with an exception table ===== -/
section VXS
variable {p : Program} {l : Launch} {e : Env} {R : Room} {s : State} {m : MethodId} {args : Array Value} {below : List Frame} {meth : Method} {c : Code} {T : State} {H : Heap} {locs : List Loc} {cells slots : Nat}
abbrev vx_CSW (R : Room) (s : State) (args : Array Value) (own : String) (index : Nat) (y : MethodName) (bytes : ByteArray) (maxL : Nat) (ret : Option FieldType) (hh : List (Nat × Nat × Nat × Nat)) (ws : List Cond) (rm : Room) (mc ms n : Nat) : Prop :=
  (rm.cells = mc ∧ rm.slots = ms ∧ rm.frames + 1 ≤ R.frames ∧ 8 + (maxL + 11) + rm.locals ≤ R.locals ∧ (∀ w ∈ ws, ∀ (a' : Array Value) (U : State), s.WarmedH U.vm → w.before a' U = true) ∧ Cond.codeWith y bytes maxL ret hh ∈ ws) ∧
  (Cond.codeWith y bytes maxL ret hh).before args s = true ∧ (Cond.initialized y.cls).before args s = true ∧ (y.cls ≠ "java/lang/invoke/MethodHandle" ∧ y.cls ≠ "java/lang/invoke/VarHandle") ∧
  (∀ sig, parseMethodDescriptor y.desc = some sig → n = sig.parameters.length) ∧ (Cond.methodLink own index y).before args s = true ∧ (Cond.static y).before args s = true
theorem vx_cwSW {own : String} {index maxL mc ms : Nat} {y : MethodName} {bytes : ByteArray} {ret : Option FieldType} {hh : List (Nat × Nat × Nat × Nat)} {Ts ws ws' : List Cond} {rm : Room} (n : Nat) (ht : ∀ w ∈ Ts, w.before args s = true) (hT : GoodIn Ts (va_wsS own index y ws)) (hw : ws = Cond.codeWith y bytes maxL ret hh :: ws') (hrc : rm.cells = mc) (hrs : rm.slots = ms)
    (hd : y.cls ≠ "java/lang/invoke/MethodHandle" ∧ y.cls ≠ "java/lang/invoke/VarHandle" ∧ (parseMethodDescriptor y.desc).map (fun d => d.parameters.length) = some n) (hR : rm.frames + 1 ≤ R.frames ∧ 8 + (maxL + 11) + rm.locals ≤ R.locals) :
    vx_CSW R s args own index y bytes maxL ret hh ws rm mc ms n := by
  have ok : ∀ w ∈ va_wsS own index y ws, w.before args s = true := fun w h => ht w (hT w h).1
  have hG : GoodIn Ts ws := fun w h => hT w (by unfold va_wsS; exact List.mem_append_right _ h)
  have hc : Cond.codeWith y bytes maxL ret hh ∈ ws := by rw [hw]; exact List.mem_cons_self
  refine ⟨⟨hrc, hrs, hR.1, hR.2, pay_in ht hG, hc⟩, ht _ (hG _ hc).1, ok _ (by simp [va_wsS]), ⟨hd.1, hd.2.1⟩, fun sig h => ?_, ok _ (by simp [va_wsS]), ok _ (by simp [va_wsS])⟩
  have h2 := hd.2.2
  rw [h] at h2
  exact (Option.some.inj h2).symm
theorem vx_callSW (X : Stand p l e R s m args below meth c T locs cells slots) (hexec : p.tables.exec = Jvm.exec) {own : String} {index : Nat} {y : MethodName} {bytes : ByteArray} {maxL : Nat} {ret : Option FieldType} {hh : List (Nat × Nat × Nat × Nat)}
    (hown : s.vm.findClass own = some m.cls) (hlink : (Cond.methodLink own index y).before args s = true) (hstat : (Cond.static y).before args s = true) (hinit : (Cond.initialized y.cls).before args s = true)
    (hcode : (Cond.codeWith y bytes maxL ret hh).before args s = true) (hy : y.cls ≠ "java/lang/invoke/MethodHandle" ∧ y.cls ≠ "java/lang/invoke/VarHandle")
    {W9 : Nat} {Pre : Pt → Array Value → Prop} {Post : Pt → Array Value → Option Value → Pt → Prop} (hK : Back l R p e below s args y 3 W9 Pre Post)
    {g : JFrame} (hg : g.method = m) (hsize : g.locals.size = c.maxLocals) {argsL rest : List Value} (hlen : ∀ sig, parseMethodDescriptor y.desc = some sig → argsL.length = sig.parameters.length)
    (hstack : g.stack = argsL.reverse ++ rest) (hW : 2 * g.monitorRoom + (rest.map fun v => v.category).sum ≤ W9) (hdg : decode c.code g.pc = .ok (.invokestatic index, 3))
    (hpre : ∀ vm₁, s.WarmedH vm₁ → Pre ⟨T.setVm vm₁, locs, cells, slots⟩ argsL.toArray) :
    ∃ (v : Option Value) (vm₁ : Vm) (B : Pt), s.WarmedH vm₁ ∧ Stand p l e R s m args below meth c B.U B.locs B.cells B.slots ∧ Post ⟨T.setVm vm₁, locs, cells, slots⟩ argsL.toArray v B ∧
      ∀ target, Steps p.tables e below (B.U.setTop { g with pc := g.pc + 3, stack := v.toList ++ rest }) target → Steps p.tables e below (T.setTop g) target := by
  obtain ⟨mk, methM, cM, hnamed, hmethM, -, -, -, -, -, -, hsigM⟩ := Cond.codeWith_spec hcode
  have hstatic : methM.isStatic = true := Cond.static_spec hnamed hmethM hstat
  obtain ⟨kP, hkP, -⟩ := className_of_methodNamed hnamed
  have hinitP : kP.init = .initialized := Cond.initialized_spec (findClass_of_methodNamed hnamed) hkP hinit
  obtain ⟨vm₁, X₁, hstep₁⟩ := X.invokestatic hexec hown hlink hnamed hmethM hstatic hkP hinitP hy (g := g) hg (argsL := argsL) (rest := rest) (hlen _ hsigM) hstack hdg
  obtain ⟨v, B, X', hpost, hsteps⟩ := hK m meth c ⟨T.setVm vm₁, locs, cells, slots⟩ { g with stack := rest } (.invokestatic index) mk argsL.toArray X₁ hg hsize hdg hW (X₁.named hnamed) (hpre vm₁ X₁.warmed)
  exact ⟨v, vm₁, B, X₁.warmed, X', hpost, fun target h => hstep₁ _ fun acts => by rw [doInvoke_state]; exact hsteps.trans h⟩
theorem vx_runSW {y : MethodName} {bytes cc : ByteArray} {maxL nL mc ms n index : Nat} {ret : Option FieldType} {hh : List (Nat × Nat × Nat × Nat)} {ws : List Cond} {rm : Room} {Pc : Array Value → State → Prop} {Qc : Array Value → State → Outcome → State → Prop} {free : Addr → Prop} {Ts : List Cond} {own : String} {As rest : List Value} {g : JFrame}
    (S : CallFix p m c cc nL s args Ts own) (hM : Met l y ws rm Pc Qc mc ms free) (cw : vx_CSW R s args own index y bytes maxL ret hh ws rm mc ms n) (hp : PreS s H Pc As)
    (hg : g.method = m) (hn : As.length = n) (hsize : g.locals.size = nL) (hstack : g.stack = As.reverse ++ rest) (hW : 2 * g.monitorRoom + (rest.map fun v => v.category).sum ≤ 8) (hdg : decode cc g.pc = .ok (.invokestatic index, 3)) (hf : cells + mc ≤ R.cells ∧ slots + ms ≤ R.slots) :
    va_Run p l e R s m args below meth c H locs cells slots mc ms g rest (Qc As.toArray) (free) := by
  obtain ⟨⟨hrc, hrs, hfr, hlo, hws, hcw⟩, hcode, hini, hy, hlen, hl, hstt⟩ := cw
  have hK : Back l R p e below s args y 3 8 (PreOf R mc ms Pc) (PostOf Qc mc ms free) := va_backW (hh := hh) (bytes := bytes) (maxL := maxL) (ret := ret) hM hp.1 hrc hrs hfr hlo hws hcw (fun a' U hW => word_at hW (Or.inl (by first | rfl | simp [Cond.onTables, Cond.keeps, Cond.steady])) hini)
  obtain ⟨hx, hb, hml, ho, -⟩ := S
  intro T hT X
  obtain ⟨v, vm₁, ⟨U', l2, c2, s2⟩, hW₁, X', ⟨g', mk, t, L, e1, e2, hq, h1, hL, h2, h3⟩, st⟩ := vx_callSW X hx (hh := hh) (bytes := bytes) (maxL := maxL) (ret := ret) ho hl hstt hini hcode hy hK hg (hsize.trans hml.symm) (argsL := As) (rest := rest) (fun sig h => hn.trans (hlen sig h)) hstack hW (by rw [hb]; exact hdg)
    (fun vm₁ hW₁ => ⟨hf.1, hf.2, hp.2 (T.setVm vm₁) hT hW₁⟩)
  dsimp only [Pt.U, Pt.locs, Pt.cells, Pt.slots] at X' e1 e2 h1 h2 h3 st
  subst h1; subst h2; subst h3
  exact ⟨v, (T.setVm vm₁).calling g' mk As.toArray, t, U', L, hT, X', hL, e1, e2, hq, st⟩
/-- not caught here, past rows that name other classes: it goes on to the caller -/
theorem vx_outP {p : Program} {l : Launch} {e : Env} {R : Room} {s : State} {m : MethodId} {args : Array Value} {below : List Frame} {meth : Method} {c : Code} {H : Heap} {locs : List Loc} {cells slots : Nat} {free : Addr → Prop} {ls : Array Slot} {rest : List Value} {Qc : Array Value → State → Outcome → State → Prop} {XC : String → State → State → Prop}
    {pc : Nat} {own E : String} {ce : Cell} {q : Addr} {mc ms : Nat} (hown : s.vm.findClass own = some m.cls) (hlocks : meth.locks = false)
    (hpass : ∀ z ∈ c.exceptionTable.toList, covers z pc = false ∨ (z.catchType ≠ 0 ∧ ∃ nm : String, (Cond.classLink own z.catchType nm).before args s = true ∧ va_Nc E nm s)) (hcell : H[q]? = some ce) (hv : ce.vm = .none) (hcl : s.vm.findClass E = some ce.cls)
    (hx : ∀ t : State, t.heap = H → s.vm.Alike t.vm → XC E s t) (hf : ∀ z ∈ locs, free z.base) (hc : cells ≤ mc) (hs : slots ≤ ms) :
    vx_W p l e R s m args below meth c H locs cells slots (vx_MQ below Qc XC args s mc ms free) (F0 m pc ls rest) q := by
  intro T hT X
  have hpl : e.platform.magicAccessors = ({} : Platform).magicAccessors := by rw [X.admits.platform]
  obtain ⟨vm', hW', X', st⟩ := X.outThrough hlocks q (g := F0 m pc ls rest) rfl rfl rfl (cell := ce) (by rw [hT]; exact hcell) (by rw [hv]; rfl)
    (by obtain ⟨k9, h9, -⟩ := Vm.findClass_spec hcl; exact ⟨k9, h9⟩) (fun z hz => by
      rcases hpass z hz with h | ⟨hz0, nm, hl1, hn1⟩
      · exact Or.inl h
      · obtain ⟨c6, hc6, hcl6⟩ := Cond.classLink_spec hown hl1 e.platform hpl
        obtain ⟨a8, b8, h1, h2, h3⟩ := hn1
        cases Option.some.inj (h1.symm.trans hcl)
        cases Option.some.inj (h2.symm.trans hc6)
        exact Or.inr ⟨hz0, _, hcl6, h3⟩)
  obtain ⟨g₀, hfr⟩ := X'.frames_eq
  have hcell9 : ((T.setVm vm').setFrames (.throwing q :: below)).heap[q]? = some ce := by
    show T.heap[q]? = some ce
    rw [hT]; exact hcell
  have hend : Ended ((T.setVm vm').setFrames (.throwing q :: below)) below (.threw q) := State.frames_setFrames _ (State.cur_lt_of_frames hfr)
  refine ⟨(T.setVm vm').setFrames (.throwing q :: below), ?_, .threw q, X'.here.running, hend, Or.inr ⟨q, rfl, E, ce, locs, hx _ hT (X'.ends _).1.alike, hcell9, hv, hcl, (X'.ends _).1, (X'.ends _).2.mono hc hs, hf⟩⟩
  rw [X.pushThrowing_eq]
  exact st
/-- a thing of a world lies in the heap -/
theorem vx_lt {D : va_G} {cl : List vw_C} {ws : va_W} {H1 : Heap} (h : va_P D cl ws H1) {k : Nat} {q : Nat × va_E} (hk : ws[k]? = some q) : q.1 < H1.size := (h k q hk).lt
end VXS
/-! ===== END ===== -/
/-! ===== BEGIN methods with a table of their own: called by a name, returning or throwing ===== -/
section VXH
/-! vx_backW, vx_callVX, vx_callSX, vx_callVW, vx_runVW, vx_runVX, vx_runSX, vx_ofWH follow the same proofs as their sisters above (Free/Laws.lean, Shelf42/LK1.lean); vx_outP calls Shelf42/NT130.lean (outThrough). -/
section
variable {l : Launch} {R : Room} {p : Program} {e : Env} {below : List Frame} {s : State} {sargs : Array Value} {y : MethodName} {len W9 : Nat}
theorem vx_backW {ws : List Cond} {rm : Room} {Pc : Array Value → State → Prop} {Qc : Array Value → State → Outcome → State → Prop} {XC : String → State → State → Prop} {mc ms : Nat} {free : Addr → Prop} {bytes : ByteArray} {maxL : Nat} {ret : Option FieldType} {hh : List (Nat × Nat × Nat × Nat)}
    (hM : vx_Met l y ws rm Pc Qc XC mc ms free) (hblind : FrameBlind Pc) (hrc : rm.cells = mc) (hrs : rm.slots = ms)
    (hframes : rm.frames + 1 ≤ R.frames) (hlocals : W9 + (maxL + 11) + rm.locals ≤ R.locals)
    (hws : ∀ w ∈ ws, ∀ a' U, s.WarmedH U.vm → w.before a' U = true) (hcode : Cond.codeWith y bytes maxL ret hh ∈ ws) (hinit : ∀ a' U, s.WarmedH U.vm → (Cond.initialized y.cls).before a' U = true) :
    vx_Back l R p e below s sargs y len W9 (PreOf R mc ms Pc) (PostOf Qc mc ms free) (vx_Post XC mc ms free) := by
  intro m meth c A g ig mk a X hg hsize hdg hW hn hp
  have h1 : (headSpec ws rm).pre.before a A.U = true := atoms_intro fun w hw => hws w hw _ _ X.warmed
  have h2 : (Cond.codeWith y bytes maxL ret hh).before a A.U = true := hws _ hcode _ _ X.warmed
  have h3 : (Cond.initialized y.cls).before a A.U = true := hinit _ _ X.warmed
  have h4 : A.cells + (headSpec ws rm).room.cells ≤ R.cells := by rw [show (headSpec ws rm).room.cells = mc from hrc]; exact hp.1
  have h5 : A.slots + (headSpec ws rm).room.slots ≤ R.slots := by rw [show (headSpec ws rm).room.slots = ms from hrs]; exact hp.2.1
  have hPc : Pc a (A.U.calling g mk a) := hblind _ _ _ _ hp.2.2
  obtain ⟨U, Ls, c0, s0⟩ := A
  dsimp only [Pt.U, Pt.locs, Pt.cells, Pt.slots] at h1 h2 h3 h4 h5 X hn hPc ⊢
  obtain ⟨m9, methY, cY, hn9, hmY, hcY, -, hlY, -⟩ := Cond.codeWith_spec h2
  cases Option.some.inj (hn9.symm.trans hn)
  obtain ⟨kY, hkY, -⟩ := className_of_methodNamed hn
  have hinitY : kY.init = .initialized := Cond.initialized_spec (findClass_of_methodNamed hn) hkY h3
  have h : At U g.method c below := by rw [hg]; exact X.here
  have hlocals9 : W9 + (maxL + 11) + (headSpec ws rm).room.locals ≤ R.locals := hlocals
  have happ : (headSpec ws rm).appliesLoose y e.platform (U.calling g mk a) = true :=
    Spec.appliesLoose_calling (g := g) h hdg hn hkY hinitY
      (X.room_calling (g := g) (R' := (headSpec ws rm).room) hsize hmY hcY hframes (by rw [hlY]; omega) h4 h5) h1
  obtain ⟨mid, hmid⟩ := h.above
  have hfr : (U.setTop g).frames = (.java g :: mid) ++ below := by rw [State.frames_setTop' g h.top, hmid]; rfl
  obtain ⟨o, s₂, hsteps, -, hend, hq⟩ := Steps.callFree hM p X.admits X.cas X.clock (acts := []) hfr happ hPc trivial
  have hq' : vx_Q Qc XC mc ms free a (U.calling g mk a) o s₂ := hq
  rw [State.frames_setTop' g h.top] at hend
  obtain ⟨g₀, hg0⟩ := Option.isSome_iff_exists.mp h.top
  obtain ⟨r, hr⟩ := State.topJava?_eq_some.mp hg0
  have hr' : (({ U with heap := s₂.heap, slotsUsed := s₂.slotsUsed } : State).setVm s₂.vm).frames = .java g₀ :: r := hr
  rcases hq' with ⟨hqc, L, hfe, hL⟩ | ⟨q, rfl, E, ce, L, hx, hce, hcv, hcl, hW₂, hsm, hL⟩
  · obtain ⟨⟨v, rfl⟩, hW₂, e2, q2, q3, q4, q5, q6⟩ := id hfe
    have e3 : s₂ = ({ (U.calling g mk a).setFrames s₂.frames with heap := s₂.heap, slotsUsed := s₂.slotsUsed } : State).setVm s₂.vm := by
      have : s₂ = ({ s₂ with vm := (U.calling g mk a).vm } : State).setVm s₂.vm := rfl
      rw [e2] at this
      exact this
    obtain ⟨c₂, i₂, len₂, hc₂, hd₂, hf₂⟩ := hend
    have hW' : U.WarmedH s₂.vm := hW₂
    have hcc : c₂ = c := by
      have h1 : s₂.code? g.method = U.code? g.method := by
        rw [State.code?_eq, State.code?_eq, hW'.alike.method?]
      exact Option.some.inj (hc₂.symm.trans (h1.trans h.code))
    subst hcc
    have hlen : len₂ = len := by rw [hdg] at hd₂; cases hd₂; rfl
    subst hlen
    have hs₂ : s₂ = (({ U with heap := s₂.heap, slotsUsed := s₂.slotsUsed } : State).setVm s₂.vm).setTop { g with pc := g.pc + len₂, stack := v.toList ++ g.stack } := by
      refine e3.trans ?_
      rw [hf₂, State.calling_eq h.top, State.setFrames_setFrames, State.setTop_of_frames _ hr', hr]
      rfl
    have hsame : U.sameButNew ({ U with heap := s₂.heap, slotsUsed := s₂.slotsUsed } : State) L mc ms := by
      refine ⟨?_, q2, q3, q4, q5, q6⟩
      obtain ⟨t, ht, -⟩ := State.frames_cons hr
      show ({ U with heap := s₂.heap, slotsUsed := s₂.slotsUsed } : State) = { U.setFrames U.frames with heap := s₂.heap, slotsUsed := s₂.slotsUsed }
      rw [State.setFrames_self ht]
    subst hg
    refine Or.inl ⟨v, ⟨(({ U with heap := s₂.heap, slotsUsed := s₂.slotsUsed } : State).setVm s₂.vm), Ls ++ L, c0 + mc, s0 + ms⟩,
      ⟨X.admits, X.cas, X.clock, X.frames, X.room, X.hears, X.method, X.code, (X.here.setHeapUsed s₂.heap s₂.slotsUsed).setVm hW'.alike, X.tail, State.WarmedH.trans X.warmed hW', X.limits, X.bytes, X.same.trans (hsame.setVm s.vm)⟩,
      ⟨g, mk, s₂, L, rfl, rfl, hqc, rfl, hL, rfl, rfl⟩, ?_⟩
    show Steps p.tables e below _ ((({ U with heap := s₂.heap, slotsUsed := s₂.slotsUsed } : State).setVm s₂.vm).setTop { g with pc := g.pc + len₂, stack := v.toList ++ g.stack })
    rw [← hs₂]
    exact hsteps
  · obtain ⟨e2, q2, q3, q4, q5, q6⟩ := id hsm
    have e3 : s₂ = ({ (U.calling g mk a).setFrames s₂.frames with heap := s₂.heap, slotsUsed := s₂.slotsUsed } : State).setVm s₂.vm := by
      have : s₂ = ({ s₂ with vm := (U.calling g mk a).vm } : State).setVm s₂.vm := rfl
      rw [e2] at this
      exact this
    have hf₂ : s₂.frames = .throwing q :: .java g :: U.frames.tail := hend
    have hW' : U.WarmedH s₂.vm := hW₂
    have hs₂ : s₂ = ((({ U with heap := s₂.heap, slotsUsed := s₂.slotsUsed } : State).setVm s₂.vm).setTop g).pushFrame (.throwing q) := by
      refine e3.trans ?_
      rw [hf₂, State.calling_eq h.top, State.setFrames_setFrames, State.pushFrame, State.frames_setTop _ hr', State.setTop_of_frames _ hr', State.setFrames_setFrames, hr]
      rfl
    have hsame : U.sameButNew ({ U with heap := s₂.heap, slotsUsed := s₂.slotsUsed } : State) L mc ms := by
      refine ⟨?_, q2, q3, q4, q5, q6⟩
      obtain ⟨t, ht, -⟩ := State.frames_cons hr
      show ({ U with heap := s₂.heap, slotsUsed := s₂.slotsUsed } : State) = { U.setFrames U.frames with heap := s₂.heap, slotsUsed := s₂.slotsUsed }
      rw [State.setFrames_self ht]
    subst hg
    refine Or.inr ⟨q, ⟨(({ U with heap := s₂.heap, slotsUsed := s₂.slotsUsed } : State).setVm s₂.vm), Ls ++ L, c0 + mc, s0 + ms⟩,
      ⟨X.admits, X.cas, X.clock, X.frames, X.room, X.hears, X.method, X.code, (X.here.setHeapUsed s₂.heap s₂.slotsUsed).setVm hW'.alike, X.tail, State.WarmedH.trans X.warmed hW', X.limits, X.bytes, X.same.trans (hsame.setVm s.vm)⟩,
      ⟨g, mk, s₂, L, E, ce, rfl, rfl, hx, hce, hcv, hcl, rfl, hL, rfl, rfl⟩, ?_⟩
    show Steps p.tables e below _ (((({ U with heap := s₂.heap, slotsUsed := s₂.slotsUsed } : State).setVm s₂.vm).setTop g).pushFrame (.throwing q))
    rw [← hs₂]
    exact hsteps
end
variable {p : Program} {l : Launch} {e : Env} {R : Room} {s : State} {m : MethodId} {args : Array Value} {below : List Frame} {meth : Method} {c : Code} {T : State} {H : Heap} {locs : List Loc} {cells slots : Nat}
theorem vx_callVX (X : Stand p l e R s m args below meth c T locs cells slots) (hexec : p.tables.exec = Jvm.exec) {own C : String} {index : Nat} {y : MethodName} {bytes : ByteArray} {maxL : Nat} {ret : Option FieldType} {hh : List (Nat × Nat × Nat × Nat)}
    (hown : s.vm.findClass own = some m.cls) (hlink : (Cond.methodLink own index y).before args s = true) (hinst : (Cond.instanceMethod y).before args s = true) (hsel : (Cond.selects C y y).before args s = true)
    (hcode : (Cond.codeWith y bytes maxL ret hh).before args s = true) (hy : y.cls ≠ "java/lang/invoke/MethodHandle" ∧ y.cls ≠ "java/lang/invoke/VarHandle")
    {W9 : Nat} {Pre : Pt → Array Value → Prop} {Post : Pt → Array Value → Option Value → Pt → Prop} {PostX : Pt → Array Value → Addr → Pt → Prop} (hK : vx_Back l R p e below s args y 3 W9 Pre Post PostX)
    {b : Addr} {cellB : Cell} (hcell : T.heap[b]? = some cellB) (hobj : cellB.vm.isStatics = false) (hcls : s.vm.findClass C = some cellB.cls)
    {g : JFrame} (hg : g.method = m) (hsize : g.locals.size = c.maxLocals) {argsL rest : List Value} (hlen : ∀ sig, parseMethodDescriptor y.desc = some sig → argsL.length = sig.parameters.length)
    (hstack : g.stack = argsL.reverse ++ .ref b :: rest) (hW : 2 * g.monitorRoom + (rest.map fun v => v.category).sum ≤ W9) (hdg : decode c.code g.pc = .ok (.invokevirtual index, 3))
    (hpre : ∀ vm₁, s.WarmedH vm₁ → Pre ⟨T.setVm vm₁, locs, cells, slots⟩ (Value.ref b :: argsL).toArray) :
    (∃ (v : Option Value) (vm₁ : Vm) (B : Pt), s.WarmedH vm₁ ∧ Stand p l e R s m args below meth c B.U B.locs B.cells B.slots ∧ Post ⟨T.setVm vm₁, locs, cells, slots⟩ (Value.ref b :: argsL).toArray v B ∧
      ∀ target, Steps p.tables e below (B.U.setTop { g with pc := g.pc + 3, stack := v.toList ++ rest }) target → Steps p.tables e below (T.setTop g) target) ∨
    (∃ (q : Addr) (vm₁ : Vm) (B : Pt), s.WarmedH vm₁ ∧ Stand p l e R s m args below meth c B.U B.locs B.cells B.slots ∧ PostX ⟨T.setVm vm₁, locs, cells, slots⟩ (Value.ref b :: argsL).toArray q B ∧
      Steps p.tables e below (T.setTop g) ((B.U.setTop { g with stack := rest }).pushFrame (.throwing q))) := by
  obtain ⟨mk, methM, hnamed, hmethM, hstM, habM⟩ := Cond.instanceMethod_spec hinst
  obtain ⟨m8, methM', cM, hn8, hmethM', -, -, -, -, -, -, hsigM⟩ := Cond.codeWith_spec hcode
  cases Option.some.inj (hn8.symm.trans hnamed)
  cases hmethM.symm.trans hmethM'
  obtain ⟨c2, r2, m2, q1, q2, q3, q4, kP, hkP, hkPi⟩ := Cond.selects_spec hsel
  cases hcls.symm.trans q1
  cases (State.methodFound?_of_named hnamed hy).symm.trans q2
  cases hnamed.symm.trans q3
  have hselP : selectMethod e.platform s.vm cellB.cls mk = .method mk := by rw [Launch.admits_selectMethod X.admits]; exact q4
  obtain ⟨vm₁, X₁, hstep₁⟩ := X.invokevirtual hexec hown hlink hnamed hmethM hstM hkP hkPi hy (a := b) (cell := cellB) hcell
    (fun z h => by rw [h] at hobj; cases hobj) hselP hmethM habM hkP hkPi (g := g) hg (argsL := argsL) (rest := rest) (hlen _ hsigM) hstack hdg
  rcases hK m meth c ⟨T.setVm vm₁, locs, cells, slots⟩ { g with stack := rest } (.invokevirtual index) mk (Value.ref b :: argsL).toArray X₁ hg hsize hdg hW (X₁.named hnamed) (hpre vm₁ X₁.warmed) with ⟨v, B, X', hpost, hsteps⟩ | ⟨q, B, X', hpost, hsteps⟩
  · exact Or.inl ⟨v, vm₁, B, X₁.warmed, X', hpost, fun target h => hstep₁ _ fun acts => by rw [doInvoke_state]; exact hsteps.trans h⟩
  · exact Or.inr ⟨q, vm₁, B, X₁.warmed, X', hpost, hstep₁ _ fun acts => by rw [doInvoke_state]; exact hsteps⟩
theorem vx_callSX (X : Stand p l e R s m args below meth c T locs cells slots) (hexec : p.tables.exec = Jvm.exec) {own : String} {index : Nat} {y : MethodName} {bytes : ByteArray} {maxL : Nat} {ret : Option FieldType} {hh : List (Nat × Nat × Nat × Nat)}
    (hown : s.vm.findClass own = some m.cls) (hlink : (Cond.methodLink own index y).before args s = true) (hstat : (Cond.static y).before args s = true) (hinit : (Cond.initialized y.cls).before args s = true)
    (hcode : (Cond.codeWith y bytes maxL ret hh).before args s = true) (hy : y.cls ≠ "java/lang/invoke/MethodHandle" ∧ y.cls ≠ "java/lang/invoke/VarHandle")
    {W9 : Nat} {Pre : Pt → Array Value → Prop} {Post : Pt → Array Value → Option Value → Pt → Prop} {PostX : Pt → Array Value → Addr → Pt → Prop} (hK : vx_Back l R p e below s args y 3 W9 Pre Post PostX)
    {g : JFrame} (hg : g.method = m) (hsize : g.locals.size = c.maxLocals) {argsL rest : List Value} (hlen : ∀ sig, parseMethodDescriptor y.desc = some sig → argsL.length = sig.parameters.length)
    (hstack : g.stack = argsL.reverse ++ rest) (hW : 2 * g.monitorRoom + (rest.map fun v => v.category).sum ≤ W9) (hdg : decode c.code g.pc = .ok (.invokestatic index, 3))
    (hpre : ∀ vm₁, s.WarmedH vm₁ → Pre ⟨T.setVm vm₁, locs, cells, slots⟩ argsL.toArray) :
    (∃ (v : Option Value) (vm₁ : Vm) (B : Pt), s.WarmedH vm₁ ∧ Stand p l e R s m args below meth c B.U B.locs B.cells B.slots ∧ Post ⟨T.setVm vm₁, locs, cells, slots⟩ argsL.toArray v B ∧
      ∀ target, Steps p.tables e below (B.U.setTop { g with pc := g.pc + 3, stack := v.toList ++ rest }) target → Steps p.tables e below (T.setTop g) target) ∨
    (∃ (q : Addr) (vm₁ : Vm) (B : Pt), s.WarmedH vm₁ ∧ Stand p l e R s m args below meth c B.U B.locs B.cells B.slots ∧ PostX ⟨T.setVm vm₁, locs, cells, slots⟩ argsL.toArray q B ∧
      Steps p.tables e below (T.setTop g) ((B.U.setTop { g with stack := rest }).pushFrame (.throwing q))) := by
  obtain ⟨mk, methM, cM, hnamed, hmethM, -, -, -, -, -, -, hsigM⟩ := Cond.codeWith_spec hcode
  have hstatic : methM.isStatic = true := Cond.static_spec hnamed hmethM hstat
  obtain ⟨kP, hkP, -⟩ := className_of_methodNamed hnamed
  have hinitP : kP.init = .initialized := Cond.initialized_spec (findClass_of_methodNamed hnamed) hkP hinit
  obtain ⟨vm₁, X₁, hstep₁⟩ := X.invokestatic hexec hown hlink hnamed hmethM hstatic hkP hinitP hy (g := g) hg (argsL := argsL) (rest := rest) (hlen _ hsigM) hstack hdg
  rcases hK m meth c ⟨T.setVm vm₁, locs, cells, slots⟩ { g with stack := rest } (.invokestatic index) mk argsL.toArray X₁ hg hsize hdg hW (X₁.named hnamed) (hpre vm₁ X₁.warmed) with ⟨v, B, X', hpost, hsteps⟩ | ⟨q, B, X', hpost, hsteps⟩
  · exact Or.inl ⟨v, vm₁, B, X₁.warmed, X', hpost, fun target h => hstep₁ _ fun acts => by rw [doInvoke_state]; exact hsteps.trans h⟩
  · exact Or.inr ⟨q, vm₁, B, X₁.warmed, X', hpost, hstep₁ _ fun acts => by rw [doInvoke_state]; exact hsteps⟩
theorem vx_callVW (X : Stand p l e R s m args below meth c T locs cells slots) (hexec : p.tables.exec = Jvm.exec) {own C : String} {index : Nat} {y : MethodName} {bytes : ByteArray} {maxL : Nat} {ret : Option FieldType} {hh : List (Nat × Nat × Nat × Nat)}
    (hown : s.vm.findClass own = some m.cls) (hlink : (Cond.methodLink own index y).before args s = true) (hinst : (Cond.instanceMethod y).before args s = true) (hsel : (Cond.selects C y y).before args s = true)
    (hcode : (Cond.codeWith y bytes maxL ret hh).before args s = true) (hy : y.cls ≠ "java/lang/invoke/MethodHandle" ∧ y.cls ≠ "java/lang/invoke/VarHandle")
    {W9 : Nat} {Pre : Pt → Array Value → Prop} {Post : Pt → Array Value → Option Value → Pt → Prop} (hK : Back l R p e below s args y 3 W9 Pre Post)
    {b : Addr} {cellB : Cell} (hcell : T.heap[b]? = some cellB) (hobj : cellB.vm.isStatics = false) (hcls : s.vm.findClass C = some cellB.cls)
    {g : JFrame} (hg : g.method = m) (hsize : g.locals.size = c.maxLocals) {argsL rest : List Value} (hlen : ∀ sig, parseMethodDescriptor y.desc = some sig → argsL.length = sig.parameters.length)
    (hstack : g.stack = argsL.reverse ++ .ref b :: rest) (hW : 2 * g.monitorRoom + (rest.map fun v => v.category).sum ≤ W9) (hdg : decode c.code g.pc = .ok (.invokevirtual index, 3))
    (hpre : ∀ vm₁, s.WarmedH vm₁ → Pre ⟨T.setVm vm₁, locs, cells, slots⟩ (Value.ref b :: argsL).toArray) :
    ∃ (v : Option Value) (vm₁ : Vm) (B : Pt), s.WarmedH vm₁ ∧ Stand p l e R s m args below meth c B.U B.locs B.cells B.slots ∧ Post ⟨T.setVm vm₁, locs, cells, slots⟩ (Value.ref b :: argsL).toArray v B ∧
      ∀ target, Steps p.tables e below (B.U.setTop { g with pc := g.pc + 3, stack := v.toList ++ rest }) target → Steps p.tables e below (T.setTop g) target := by
  obtain ⟨mk, methM, hnamed, hmethM, hstM, habM⟩ := Cond.instanceMethod_spec hinst
  obtain ⟨m8, methM', cM, hn8, hmethM', -, -, -, -, -, -, hsigM⟩ := Cond.codeWith_spec hcode
  cases Option.some.inj (hn8.symm.trans hnamed)
  cases hmethM.symm.trans hmethM'
  obtain ⟨c2, r2, m2, q1, q2, q3, q4, kP, hkP, hkPi⟩ := Cond.selects_spec hsel
  cases hcls.symm.trans q1
  cases (State.methodFound?_of_named hnamed hy).symm.trans q2
  cases hnamed.symm.trans q3
  have hselP : selectMethod e.platform s.vm cellB.cls mk = .method mk := by rw [Launch.admits_selectMethod X.admits]; exact q4
  obtain ⟨vm₁, X₁, hstep₁⟩ := X.invokevirtual hexec hown hlink hnamed hmethM hstM hkP hkPi hy (a := b) (cell := cellB) hcell
    (fun z h => by rw [h] at hobj; cases hobj) hselP hmethM habM hkP hkPi (g := g) hg (argsL := argsL) (rest := rest) (hlen _ hsigM) hstack hdg
  obtain ⟨v, B, X', hpost, hsteps⟩ := hK m meth c ⟨T.setVm vm₁, locs, cells, slots⟩ { g with stack := rest } (.invokevirtual index) mk (Value.ref b :: argsL).toArray X₁ hg hsize hdg hW (X₁.named hnamed) (hpre vm₁ X₁.warmed)
  exact ⟨v, vm₁, B, X₁.warmed, X', hpost, fun target h => hstep₁ _ fun acts => by rw [doInvoke_state]; exact hsteps.trans h⟩
abbrev vx_CVW (R : Room) (s : State) (args : Array Value) (own C : String) (index : Nat) (y : MethodName) (bytes : ByteArray) (maxL : Nat) (ret : Option FieldType) (hh : List (Nat × Nat × Nat × Nat)) (ws : List Cond) (rm : Room) (mc ms n : Nat) : Prop :=
  (rm.cells = mc ∧ rm.slots = ms ∧ rm.frames + 1 ≤ R.frames ∧ 8 + (maxL + 11) + rm.locals ≤ R.locals ∧ (∀ w ∈ ws, ∀ (a' : Array Value) (U : State), s.WarmedH U.vm → w.before a' U = true) ∧ Cond.codeWith y bytes maxL ret hh ∈ ws) ∧
  (Cond.codeWith y bytes maxL ret hh).before args s = true ∧ (Cond.initialized y.cls).before args s = true ∧ (y.cls ≠ "java/lang/invoke/MethodHandle" ∧ y.cls ≠ "java/lang/invoke/VarHandle") ∧
  (∀ sig, parseMethodDescriptor y.desc = some sig → n = sig.parameters.length) ∧ (Cond.methodLink own index y).before args s = true ∧ (Cond.instanceMethod y).before args s = true ∧ (Cond.selects C y y).before args s = true
theorem vx_cwVW {own C : String} {index maxL mc ms : Nat} {y : MethodName} {bytes : ByteArray} {ret : Option FieldType} {hh : List (Nat × Nat × Nat × Nat)} {Ts ws ws' : List Cond} {rm : Room} (n : Nat) (ht : ∀ w ∈ Ts, w.before args s = true) (hT : GoodIn Ts (wsV own index C y ws)) (hw : ws = Cond.codeWith y bytes maxL ret hh :: ws') (hrc : rm.cells = mc) (hrs : rm.slots = ms)
    (hd : y.cls = C ∧ y.cls ≠ "java/lang/invoke/MethodHandle" ∧ y.cls ≠ "java/lang/invoke/VarHandle" ∧ (parseMethodDescriptor y.desc).map (fun d => d.parameters.length) = some n) (hR : rm.frames + 1 ≤ R.frames ∧ 8 + (maxL + 11) + rm.locals ≤ R.locals) :
    vx_CVW R s args own C index y bytes maxL ret hh ws rm mc ms n := by
  obtain ⟨hC, hd⟩ := hd
  subst hC
  have ok : ∀ w ∈ wsV own index y.cls y ws, w.before args s = true := fun w h => ht w (hT w h).1
  have hG : GoodIn Ts ws := fun w h => hT w (by unfold wsV; exact List.mem_append_right _ h)
  have hc : Cond.codeWith y bytes maxL ret hh ∈ ws := by rw [hw]; exact List.mem_cons_self
  refine ⟨⟨hrc, hrs, hR.1, hR.2, pay_in ht hG, hc⟩, ht _ (hG _ hc).1, ok _ (by simp [wsV]), ⟨hd.1, hd.2.1⟩, fun sig h => ?_, ok _ (by simp [wsV]), ok _ (by simp [wsV]), ok _ (by simp [wsV])⟩
  have h2 := hd.2.2
  rw [h] at h2
  exact (Option.some.inj h2).symm
theorem vx_runVW {y : MethodName} {bytes cc : ByteArray} {maxL nL mc ms n index : Nat} {ret : Option FieldType} {hh : List (Nat × Nat × Nat × Nat)} {ws : List Cond} {rm : Room} {Pc : Array Value → State → Prop} {Qc : Array Value → State → Outcome → State → Prop} {free : Addr → Prop} {Ts : List Cond} {own C : String} {b : Addr} {As rest : List Value} {g : JFrame}
    (S : CallFix p m c cc nL s args Ts own) (hM : Met l y ws rm Pc Qc mc ms free) (cw : vx_CVW R s args own C index y bytes maxL ret hh ws rm mc ms n) (hp : PreV s H C b Pc As)
    (hg : g.method = m) (hn : As.length = n) (hsize : g.locals.size = nL) (hstack : g.stack = As.reverse ++ .ref b :: rest) (hW : 2 * g.monitorRoom + (rest.map fun v => v.category).sum ≤ 8) (hdg : decode cc g.pc = .ok (.invokevirtual index, 3)) (hf : cells + mc ≤ R.cells ∧ slots + ms ≤ R.slots) :
    va_Run p l e R s m args below meth c H locs cells slots mc ms g rest (Qc (Value.ref b :: As).toArray) free := by
  obtain ⟨⟨hrc, hrs, hfr, hlo, hws, hcw⟩, hcode, hini, hy, hlen, hl, hin, hse⟩ := cw
  have hK : Back l R p e below s args y 3 8 (PreOf R mc ms Pc) (PostOf Qc mc ms free) := va_backW (hh := hh) (bytes := bytes) (maxL := maxL) (ret := ret) hM hp.1 hrc hrs hfr hlo hws hcw (fun a' U hW => word_at hW (Or.inl (by first | rfl | simp [Cond.onTables, Cond.keeps, Cond.steady])) hini)
  obtain ⟨hx, hb, hml, ho, -⟩ := S
  obtain ⟨-, ⟨cellB, hcB, hoB, hclB⟩, hPc⟩ := hp
  intro T hT X
  obtain ⟨v, vm₁, ⟨U', l2, c2, s2⟩, hW₁, X', ⟨g', mk, t, L, e1, e2, hq, h1, hL, h2, h3⟩, st⟩ := vx_callVW X hx (C := C) (hh := hh) (bytes := bytes) (maxL := maxL) (ret := ret) ho hl hin hse hcode hy hK (by rw [hT]; exact hcB) hoB hclB hg (hsize.trans hml.symm) (argsL := As) (rest := rest) (fun sig h => hn.trans (hlen sig h)) hstack hW (by rw [hb]; exact hdg)
    (fun vm₁ hW₁ => ⟨hf.1, hf.2, hPc (T.setVm vm₁) hT hW₁⟩)
  dsimp only [Pt.U, Pt.locs, Pt.cells, Pt.slots] at X' e1 e2 h1 h2 h3 st
  subst h1; subst h2; subst h3
  exact ⟨v, (T.setVm vm₁).calling g' mk (Value.ref b :: As).toArray, t, U', L, hT, X', hL, e1, e2, hq, st⟩
section
variable {y : MethodName} {bytes cc : ByteArray} {maxL nL mc ms n index : Nat} {ret : Option FieldType} {ws : List Cond} {rm : Room} {Pc : Array Value → State → Prop} {Qc : Array Value → State → Outcome → State → Prop} {XC : String → State → State → Prop} {free : Addr → Prop} {Ts : List Cond} {own C : String} {b : Addr} {As rest : List Value} {g : JFrame}
theorem vx_runVX {hh : List (Nat × Nat × Nat × Nat)} (S : CallFix p m c cc nL s args Ts own) (hM : vx_Met l y ws rm Pc Qc XC mc ms free) (cw : vx_CVW R s args own C index y bytes maxL ret hh ws rm mc ms n) (hp : PreV s H C b Pc As)
    (hg : g.method = m) (hn : As.length = n) (hsize : g.locals.size = nL) (hstack : g.stack = As.reverse ++ .ref b :: rest) (hW : 2 * g.monitorRoom + (rest.map fun v => v.category).sum ≤ 8) (hdg : decode cc g.pc = .ok (.invokevirtual index, 3)) (hf : cells + mc ≤ R.cells ∧ slots + ms ≤ R.slots) :
    vx_Run p l e R s m args below meth c H locs cells slots mc ms g rest (Qc (Value.ref b :: As).toArray) XC free := by
  obtain ⟨⟨hrc, hrs, hfr, hlo, hws, hcw⟩, hcode, hini, hy, hlen, hl, hin, hse⟩ := cw
  have hK : vx_Back l R p e below s args y 3 8 (PreOf R mc ms Pc) (PostOf Qc mc ms free) (vx_Post XC mc ms free) := vx_backW (hh := hh) (bytes := bytes) (maxL := maxL) (ret := ret) hM hp.1 hrc hrs hfr hlo hws hcw (fun a' U hW => word_at hW (Or.inl (by first | rfl | simp [Cond.onTables, Cond.keeps, Cond.steady])) hini)
  obtain ⟨hx, hb, hml, ho, -⟩ := S
  obtain ⟨-, ⟨cellB, hcB, hoB, hclB⟩, hPc⟩ := hp
  intro T hT X
  rcases vx_callVX X hx (C := C) (hh := hh) (bytes := bytes) (maxL := maxL) (ret := ret) ho hl hin hse hcode hy hK (by rw [hT]; exact hcB) hoB hclB hg (hsize.trans hml.symm) (argsL := As) (rest := rest) (fun sig h => hn.trans (hlen sig h)) hstack hW (by rw [hb]; exact hdg)
    (fun vm₁ hW₁ => ⟨hf.1, hf.2, hPc (T.setVm vm₁) hT hW₁⟩) with ⟨v, vm₁, ⟨U', l2, c2, s2⟩, hW₁, X', ⟨g', mk, t, L, e1, e2, hq, h1, hL, h2, h3⟩, st⟩ | ⟨q, vm₁, ⟨U', l2, c2, s2⟩, hW₁, X', ⟨g', mk, t, L, E, ce, e1, e2, hq, hce, hcv, hcl, h1, hL, h2, h3⟩, st⟩
  · dsimp only [Pt.U, Pt.locs, Pt.cells, Pt.slots] at X' e1 e2 h1 h2 h3 st
    subst h1; subst h2; subst h3
    exact Or.inl ⟨v, (T.setVm vm₁).calling g' mk (Value.ref b :: As).toArray, t, U', L, hT, X', hL, e1, e2, hq, st⟩
  · dsimp only [Pt.U, Pt.locs, Pt.cells, Pt.slots] at X' e1 e2 h1 h2 h3 st hcl
    subst h1; subst h2; subst h3
    exact Or.inr ⟨q, (T.setVm vm₁).calling g' mk (Value.ref b :: As).toArray, t, U', L, E, ce, hT, X', hL, e1, e2, hq, hce, hcv, vx_cls hW₁ hcl, st⟩
theorem vx_runSX {hh : List (Nat × Nat × Nat × Nat)} (S : CallFix p m c cc nL s args Ts own) (hM : vx_Met l y ws rm Pc Qc XC mc ms free) (cw : vx_CSW R s args own index y bytes maxL ret hh ws rm mc ms n) (hp : PreS s H Pc As)
    (hg : g.method = m) (hn : As.length = n) (hsize : g.locals.size = nL) (hstack : g.stack = As.reverse ++ rest) (hW : 2 * g.monitorRoom + (rest.map fun v => v.category).sum ≤ 8) (hdg : decode cc g.pc = .ok (.invokestatic index, 3)) (hf : cells + mc ≤ R.cells ∧ slots + ms ≤ R.slots) :
    vx_Run p l e R s m args below meth c H locs cells slots mc ms g rest (Qc As.toArray) XC free := by
  obtain ⟨⟨hrc, hrs, hfr, hlo, hws, hcw⟩, hcode, hini, hy, hlen, hl, hstt⟩ := cw
  have hK : vx_Back l R p e below s args y 3 8 (PreOf R mc ms Pc) (PostOf Qc mc ms free) (vx_Post XC mc ms free) := vx_backW (hh := hh) (bytes := bytes) (maxL := maxL) (ret := ret) hM hp.1 hrc hrs hfr hlo hws hcw (fun a' U hW => word_at hW (Or.inl (by first | rfl | simp [Cond.onTables, Cond.keeps, Cond.steady])) hini)
  obtain ⟨hx, hb, hml, ho, -⟩ := S
  intro T hT X
  rcases vx_callSX X hx (hh := hh) (bytes := bytes) (maxL := maxL) (ret := ret) ho hl hstt hini hcode hy hK hg (hsize.trans hml.symm) (argsL := As) (rest := rest) (fun sig h => hn.trans (hlen sig h)) hstack hW (by rw [hb]; exact hdg)
    (fun vm₁ hW₁ => ⟨hf.1, hf.2, hp.2 (T.setVm vm₁) hT hW₁⟩) with ⟨v, vm₁, ⟨U', l2, c2, s2⟩, hW₁, X', ⟨g', mk, t, L, e1, e2, hq, h1, hL, h2, h3⟩, st⟩ | ⟨q, vm₁, ⟨U', l2, c2, s2⟩, hW₁, X', ⟨g', mk, t, L, E, ce, e1, e2, hq, hce, hcv, hcl, h1, hL, h2, h3⟩, st⟩
  · dsimp only [Pt.U, Pt.locs, Pt.cells, Pt.slots] at X' e1 e2 h1 h2 h3 st
    subst h1; subst h2; subst h3
    exact Or.inl ⟨v, (T.setVm vm₁).calling g' mk As.toArray, t, U', L, hT, X', hL, e1, e2, hq, st⟩
  · dsimp only [Pt.U, Pt.locs, Pt.cells, Pt.slots] at X' e1 e2 h1 h2 h3 st hcl
    subst h1; subst h2; subst h3
    exact Or.inr ⟨q, (T.setVm vm₁).calling g' mk As.toArray, t, U', L, E, ce, hT, X', hL, e1, e2, hq, hce, hcv, vx_cls hW₁ hcl, st⟩
end
end VXH
theorem vx_ofWH {l : Launch} {y : MethodName} {ws ws' : List Cond} {rm : Room} {Pc : Array Value → State → Prop} {Qc : Array Value → State → Outcome → State → Prop} {XC : String → State → State → Prop} {mc ms : Nat} {free : Addr → Prop} {cc : ByteArray} {maxL : Nat} {ret : Option FieldType} {hh : List (Nat × Nat × Nat × Nat)}
    (hy : plainName y.cls = true) (hw : ws = Cond.codeWith y cc maxL ret hh :: ws')
    (body : ∀ p e s m args below meth c s₁, BodyLoose p l y (headSpec ws rm) cc maxL ret e s m args below meth c s₁ → c.maxLocals = maxL → Pc args s →
      W p l e (headSpec ws rm).room s m args below meth c s.heap [] 0 0 (vx_MQ below Qc XC args s mc ms free) (entryFrame m args maxL)) : vx_Met l y ws rm Pc Qc XC mc ms free := by
  refine MetFree.of_bodyS (code := cc) (maxLocals := maxL) (ret := ret) hy ?_ ?_
  · intro args s m h hn
    obtain ⟨m9, meth, c, hn9, h1, h2, h3, h4, -, h5, h6, -⟩ := Cond.codeWith_spec (atoms_spec (ws := ws) h _ (by rw [hw]; exact List.mem_cons_self))
    cases hn.symm.trans hn9
    exact ⟨meth, c, h1, h2, h3, h4, h5, h6⟩
  · intro p e s m args below meth c s₁ B hml hP _
    have hh0 : s₁.heap = s.heap := by rw [B.state]; rfl
    obtain ⟨t, a1, o, b1, b2, b3⟩ := body p e s m args below meth c s₁ B hml hP s₁ hh0 (Stand.of_body B)
    exact ⟨t, o, a1, b1, b2, b3⟩
/-! ===== END ===== -/
end
section
/-! ===== BEGIN printed: names, fields, word lists, decode rows ===== -/
def RX0 : String := "CnfXorSolver$Elimination"
def TX0 : u_T := fun k => match k with
  | 0 => ("CnfXorSolver$Elimination", "rowOfPivot", "[I", true)
  | 1 => ("CnfXorSolver$Elimination", "rowCount", "I", false)
  | _ => ("CnfXorSolver$Elimination", "consistent", "Z", false)
def tyX0 : Nat → FieldType := fun k => match k with
  | 0 => .array .int
  | 1 => .int
  | _ => .boolean
abbrev wsX00 : List Cond := u_ws RX0 TX0 3
theorem nmX0 : ∀ a, a < 3 → ∀ b, b < 3 → a ≠ b → (TX0 a).2.1 ≠ (TX0 b).2.1 := by decide +kernel
theorem tyX0_ok : ∀ k, k < 3 → parseFieldDescriptor (TX0 k).2.2.1 = some (tyX0 k) := by decide +kernel
abbrev cX0_init : ByteArray := prog_2_method_1_code
def yX0_init : MethodName := ⟨RX0, "<init>", "()V"⟩
abbrev cX0_run : ByteArray := prog_2_method_2_code
def yX0_run : MethodName := ⟨RX0, "run", "(LCnfXorSolver$Formula;)V"⟩
abbrev cX0_reduced : ByteArray := prog_2_method_3_code
def yX0_reduced : MethodName := ⟨RX0, "reduced", "(I)I"⟩
abbrev cX0_insert : ByteArray := prog_2_method_4_code
def yX0_insert : MethodName := ⟨RX0, "insert", "(I)V"⟩
abbrev cX0_rowAt : ByteArray := prog_2_method_5_code
def yX0_rowAt : MethodName := ⟨RX0, "rowAt", "(I)I"⟩
def RX1 : String := "CnfXorSolver$Formula"
def TX1 : u_T := fun k => match k with
  | 0 => ("CnfXorSolver$Formula", "codes", "[I", true)
  | _ => ("CnfXorSolver$Formula", "count", "I", false)
def tyX1 : Nat → FieldType := fun k => match k with
  | 0 => .array .int
  | _ => .int
abbrev wsX10 : List Cond := u_ws RX1 TX1 2
theorem nmX1 : ∀ a, a < 2 → ∀ b, b < 2 → a ≠ b → (TX1 a).2.1 ≠ (TX1 b).2.1 := by decide +kernel
theorem tyX1_ok : ∀ k, k < 2 → parseFieldDescriptor (TX1 k).2.2.1 = some (tyX1 k) := by decide +kernel
abbrev cX1_init : ByteArray := prog_3_method_1_code
def yX1_init : MethodName := ⟨RX1, "<init>", "()V"⟩
abbrev cX1_has : ByteArray := prog_3_method_2_code
def yX1_has : MethodName := ⟨RX1, "has", "(I)Z"⟩
abbrev cX1_isFull : ByteArray := prog_3_method_3_code
def yX1_isFull : MethodName := ⟨RX1, "isFull", "()Z"⟩
abbrev cX1_codeAt : ByteArray := prog_3_method_4_code
def yX1_codeAt : MethodName := ⟨RX1, "codeAt", "(I)I"⟩
abbrev cX1_add : ByteArray := prog_3_method_5_code
def yX1_add : MethodName := ⟨RX1, "add", "(I)V"⟩
abbrev cX1_removeAt : ByteArray := prog_3_method_6_code
def yX1_removeAt : MethodName := ⟨RX1, "removeAt", "(I)V"⟩
abbrev cX1_copyFrom : ByteArray := prog_3_method_7_code
def yX1_copyFrom : MethodName := ⟨RX1, "copyFrom", "(LCnfXorSolver$Formula;)V"⟩
abbrev cX1_firstViolatedOrUnit : ByteArray := prog_3_method_8_code
def yX1_firstViolatedOrUnit : MethodName := ⟨RX1, "firstViolatedOrUnit", "(II)I"⟩
def RX2 : String := "CnfXorSolver$FormulaText"
def TX2 : u_T := fun k => match k with
  | 0 => ("CnfXorSolver$FormulaText", "characters", "[I", true)
  | 1 => ("CnfXorSolver$FormulaText", "length", "I", false)
  | 2 => ("CnfXorSolver$FormulaText", "formula", "LCnfXorSolver$Formula;", true)
  | 3 => ("CnfXorSolver$FormulaText", "place", "I", false)
  | 4 => ("CnfXorSolver$FormulaText", "itemFirst", "I", false)
  | _ => ("CnfXorSolver$FormulaText", "itemSecond", "I", false)
def tyX2 : Nat → FieldType := fun k => match k with
  | 0 => .array .int
  | 1 => .int
  | 2 => .object "CnfXorSolver$Formula"
  | 3 => .int
  | 4 => .int
  | _ => .int
abbrev wsX20 : List Cond := u_ws RX2 TX2 6
theorem nmX2 : ∀ a, a < 6 → ∀ b, b < 6 → a ≠ b → (TX2 a).2.1 ≠ (TX2 b).2.1 := by decide +kernel
theorem tyX2_ok : ∀ k, k < 6 → parseFieldDescriptor (TX2 k).2.2.1 = some (tyX2 k) := by decide +kernel
abbrev cX2_init : ByteArray := prog_4_method_1_code
def yX2_init : MethodName := ⟨RX2, "<init>", "()V"⟩
abbrev cX2_put : ByteArray := prog_4_method_2_code
def yX2_put : MethodName := ⟨RX2, "put", "(I)V"⟩
abbrev cX2_read : ByteArray := prog_4_method_3_code
def yX2_read : MethodName := ⟨RX2, "read", "()I"⟩
abbrev cX2_startItem : ByteArray := prog_4_method_4_code
def yX2_startItem : MethodName := ⟨RX2, "startItem", "()V"⟩
abbrev cX2_takes : ByteArray := prog_4_method_5_code
def yX2_takes : MethodName := ⟨RX2, "takes", "(I)Z"⟩
abbrev cX2_takesFirst : ByteArray := prog_4_method_6_code
def yX2_takesFirst : MethodName := ⟨RX2, "takesFirst", "(I)Z"⟩
abbrev cX2_takesClauseLetter : ByteArray := prog_4_method_7_code
def yX2_takesClauseLetter : MethodName := ⟨RX2, "takesClauseLetter", "(I)Z"⟩
abbrev cX2_takesBit : ByteArray := prog_4_method_8_code
def yX2_takesBit : MethodName := ⟨RX2, "takesBit", "(I)Z"⟩
abbrev cX2_takesInParity : ByteArray := prog_4_method_9_code
def yX2_takesInParity : MethodName := ⟨RX2, "takesInParity", "(I)Z"⟩
abbrev cX2_endsItem : ByteArray := prog_4_method_10_code
def yX2_endsItem : MethodName := ⟨RX2, "endsItem", "(I)Z"⟩
abbrev cX2_isNewLetter : ByteArray := prog_4_method_11_code
def yX2_isNewLetter : MethodName := ⟨RX2, "isNewLetter", "(ICI)Z"⟩
def RX3 : String := "CnfXorSolver$Memory"
def TX3 : u_T := fun k => match k with
  | 0 => ("CnfXorSolver$Memory", "remembered", "[LCnfXorSolver$State;", true)
  | 1 => ("CnfXorSolver$Memory", "slots", "[LCnfXorSolver$State;", true)
  | 2 => ("CnfXorSolver$Memory", "filled", "[Z", true)
  | _ => ("CnfXorSolver$Memory", "rememberedCount", "I", false)
def tyX3 : Nat → FieldType := fun k => match k with
  | 0 => .array (.object "CnfXorSolver$State")
  | 1 => .array (.object "CnfXorSolver$State")
  | 2 => .array .boolean
  | _ => .int
abbrev wsX30 : List Cond := u_ws RX3 TX3 4
theorem nmX3 : ∀ a, a < 4 → ∀ b, b < 4 → a ≠ b → (TX3 a).2.1 ≠ (TX3 b).2.1 := by decide +kernel
theorem tyX3_ok : ∀ k, k < 4 → parseFieldDescriptor (TX3 k).2.2.1 = some (tyX3 k) := by decide +kernel
abbrev cX3_init : ByteArray := prog_5_method_1_code
def yX3_init : MethodName := ⟨RX3, "<init>", "()V"⟩
abbrev cX3_remember : ByteArray := prog_5_method_2_code
def yX3_remember : MethodName := ⟨RX3, "remember", "(LCnfXorSolver$State;)V"⟩
abbrev cX3_forgetOldest : ByteArray := prog_5_method_3_code
def yX3_forgetOldest : MethodName := ⟨RX3, "forgetOldest", "()V"⟩
abbrev cX3_takeBack : ByteArray := prog_5_method_4_code
def yX3_takeBack : MethodName := ⟨RX3, "takeBack", "(LCnfXorSolver$State;)V"⟩
abbrev cX3_forgetAll : ByteArray := prog_5_method_5_code
def yX3_forgetAll : MethodName := ⟨RX3, "forgetAll", "()V"⟩
abbrev cX3_isFilled : ByteArray := prog_5_method_6_code
def yX3_isFilled : MethodName := ⟨RX3, "isFilled", "(I)Z"⟩
abbrev cX3_fillSlot : ByteArray := prog_5_method_7_code
def yX3_fillSlot : MethodName := ⟨RX3, "fillSlot", "(ILCnfXorSolver$State;)V"⟩
abbrev cX3_copySlot : ByteArray := prog_5_method_8_code
def yX3_copySlot : MethodName := ⟨RX3, "copySlot", "(ILCnfXorSolver$State;)V"⟩
abbrev cX3_emptySlots : ByteArray := prog_5_method_9_code
def yX3_emptySlots : MethodName := ⟨RX3, "emptySlots", "()V"⟩
abbrev cX3_copyInto : ByteArray := prog_5_method_10_code
def yX3_copyInto : MethodName := ⟨RX3, "copyInto", "(LCnfXorSolver$State;LCnfXorSolver$State;)V"⟩
def RX4 : String := "CnfXorSolver$ModelTable"
def TX4 : u_T := fun k => match k with
  | 0 => ("CnfXorSolver$ModelTable", "violated", "[I", true)
  | _ => ("CnfXorSolver$ModelTable", "stale", "Z", false)
def tyX4 : Nat → FieldType := fun k => match k with
  | 0 => .array .int
  | _ => .boolean
abbrev wsX40 : List Cond := u_ws RX4 TX4 2
theorem nmX4 : ∀ a, a < 2 → ∀ b, b < 2 → a ≠ b → (TX4 a).2.1 ≠ (TX4 b).2.1 := by decide +kernel
theorem tyX4_ok : ∀ k, k < 2 → parseFieldDescriptor (TX4 k).2.2.1 = some (tyX4 k) := by decide +kernel
abbrev cX4_init : ByteArray := prog_6_method_1_code
def yX4_init : MethodName := ⟨RX4, "<init>", "()V"⟩
abbrev cX4_refresh : ByteArray := prog_6_method_2_code
def yX4_refresh : MethodName := ⟨RX4, "refresh", "(LCnfXorSolver$Formula;)V"⟩
abbrev cX4_violatedBy : ByteArray := prog_6_method_3_code
def yX4_violatedBy : MethodName := ⟨RX4, "violatedBy", "(LCnfXorSolver$Formula;I)I"⟩
abbrev cX4_countModels : ByteArray := prog_6_method_4_code
def yX4_countModels : MethodName := ⟨RX4, "countModels", "()I"⟩
abbrev cX4_modelAt : ByteArray := prog_6_method_5_code
def yX4_modelAt : MethodName := ⟨RX4, "modelAt", "(I)I"⟩
abbrev cX4_allSatisfy : ByteArray := prog_6_method_6_code
def yX4_allSatisfy : MethodName := ⟨RX4, "allSatisfy", "(I)Z"⟩
abbrev cX4_canSatisfy : ByteArray := prog_6_method_7_code
def yX4_canSatisfy : MethodName := ⟨RX4, "canSatisfy", "(I)Z"⟩
def RX5 : String := "CnfXorSolver$State"
def TX5 : u_T := fun k => match k with
  | 0 => ("CnfXorSolver$State", "formula", "LCnfXorSolver$Formula;", true)
  | 1 => ("CnfXorSolver$State", "decisions", "[I", true)
  | _ => ("CnfXorSolver$State", "decisionCount", "I", false)
def tyX5 : Nat → FieldType := fun k => match k with
  | 0 => .object "CnfXorSolver$Formula"
  | 1 => .array .int
  | _ => .int
abbrev wsX50 : List Cond := u_ws RX5 TX5 3
theorem nmX5 : ∀ a, a < 3 → ∀ b, b < 3 → a ≠ b → (TX5 a).2.1 ≠ (TX5 b).2.1 := by decide +kernel
theorem tyX5_ok : ∀ k, k < 3 → parseFieldDescriptor (TX5 k).2.2.1 = some (tyX5 k) := by decide +kernel
abbrev cX5_init : ByteArray := prog_7_method_1_code
def yX5_init : MethodName := ⟨RX5, "<init>", "()V"⟩
abbrev cX5_decisionAt : ByteArray := prog_7_method_2_code
def yX5_decisionAt : MethodName := ⟨RX5, "decisionAt", "(I)I"⟩
abbrev cX5_addDecision : ByteArray := prog_7_method_3_code
def yX5_addDecision : MethodName := ⟨RX5, "addDecision", "(I)V"⟩
abbrev cX5_keepDecisions : ByteArray := prog_7_method_4_code
def yX5_keepDecisions : MethodName := ⟨RX5, "keepDecisions", "(I)V"⟩
abbrev cX5_copyFrom : ByteArray := prog_7_method_5_code
def yX5_copyFrom : MethodName := ⟨RX5, "copyFrom", "(LCnfXorSolver$State;)V"⟩
def RX6 : String := "CnfXorSolver$Trail"
def TX6 : u_T := fun k => match k with
  | 0 => ("CnfXorSolver$Trail", "order", "[I", true)
  | 1 => ("CnfXorSolver$Trail", "levels", "[I", true)
  | 2 => ("CnfXorSolver$Trail", "reasons", "[I", true)
  | 3 => ("CnfXorSolver$Trail", "length", "I", false)
  | 4 => ("CnfXorSolver$Trail", "assigned", "I", false)
  | 5 => ("CnfXorSolver$Trail", "trueSet", "I", false)
  | 6 => ("CnfXorSolver$Trail", "topLevel", "I", false)
  | 7 => ("CnfXorSolver$Trail", "assignedBelow", "I", false)
  | _ => ("CnfXorSolver$Trail", "conflictNumber", "I", false)
def tyX6 : Nat → FieldType := fun k => match k with
  | 0 => .array .int
  | 1 => .array .int
  | 2 => .array .int
  | 3 => .int
  | 4 => .int
  | 5 => .int
  | 6 => .int
  | 7 => .int
  | _ => .int
abbrev wsX60 : List Cond := u_ws RX6 TX6 9
theorem nmX6 : ∀ a, a < 9 → ∀ b, b < 9 → a ≠ b → (TX6 a).2.1 ≠ (TX6 b).2.1 := by decide +kernel
theorem tyX6_ok : ∀ k, k < 9 → parseFieldDescriptor (TX6 k).2.2.1 = some (tyX6 k) := by decide +kernel
abbrev cX6_init : ByteArray := prog_8_method_1_code
def yX6_init : MethodName := ⟨RX6, "<init>", "()V"⟩
abbrev cX6_build : ByteArray := prog_8_method_2_code
def yX6_build : MethodName := ⟨RX6, "build", "(LCnfXorSolver$State;)V"⟩
abbrev cX6_allows : ByteArray := prog_8_method_3_code
def yX6_allows : MethodName := ⟨RX6, "allows", "(I)Z"⟩
abbrev cX6_startLevel : ByteArray := prog_8_method_4_code
def yX6_startLevel : MethodName := ⟨RX6, "startLevel", "(I)V"⟩
abbrev cX6_propagate : ByteArray := prog_8_method_5_code
def yX6_propagate : MethodName := ⟨RX6, "propagate", "(LCnfXorSolver$Formula;)V"⟩
abbrev cX6_assign : ByteArray := prog_8_method_6_code
def yX6_assign : MethodName := ⟨RX6, "assign", "(IZI)V"⟩
abbrev cX6_isAssigned : ByteArray := prog_8_method_7_code
def yX6_isAssigned : MethodName := ⟨RX6, "isAssigned", "(I)Z"⟩
abbrev cX6_isTrue : ByteArray := prog_8_method_8_code
def yX6_isTrue : MethodName := ⟨RX6, "isTrue", "(I)Z"⟩
abbrev cX6_literalAt : ByteArray := prog_8_method_9_code
def yX6_literalAt : MethodName := ⟨RX6, "literalAt", "(I)I"⟩
abbrev cX6_reasonOf : ByteArray := prog_8_method_10_code
def yX6_reasonOf : MethodName := ⟨RX6, "reasonOf", "(I)I"⟩
abbrev cX6_learnedVariables : ByteArray := prog_8_method_11_code
def yX6_learnedVariables : MethodName := ⟨RX6, "learnedVariables", "(LCnfXorSolver$Formula;)I"⟩
abbrev cX6_backjumpLevel : ByteArray := prog_8_method_12_code
def yX6_backjumpLevel : MethodName := ⟨RX6, "backjumpLevel", "(I)I"⟩
abbrev cX6_falseClause : ByteArray := prog_8_method_13_code
def yX6_falseClause : MethodName := ⟨RX6, "falseClause", "(I)I"⟩
def RX7 : String := "CnfXorSolver"
def TX7 : u_T := fun k => match k with
  | 0 => ("CnfXorSolver", "text", "LCnfXorSolver$FormulaText;", true)
  | 1 => ("CnfXorSolver", "state", "LCnfXorSolver$State;", true)
  | 2 => ("CnfXorSolver", "trail", "LCnfXorSolver$Trail;", true)
  | 3 => ("CnfXorSolver", "memory", "LCnfXorSolver$Memory;", true)
  | 4 => ("CnfXorSolver", "models", "LCnfXorSolver$ModelTable;", true)
  | 5 => ("CnfXorSolver", "elimination", "LCnfXorSolver$Elimination;", true)
  | 6 => ("CnfXorSolver", "copy", "LCnfXorSolver$State;", true)
  | _ => ("CnfXorSolver", "copyTrail", "LCnfXorSolver$Trail;", true)
def tyX7 : Nat → FieldType := fun k => match k with
  | 0 => .object "CnfXorSolver$FormulaText"
  | 1 => .object "CnfXorSolver$State"
  | 2 => .object "CnfXorSolver$Trail"
  | 3 => .object "CnfXorSolver$Memory"
  | 4 => .object "CnfXorSolver$ModelTable"
  | 5 => .object "CnfXorSolver$Elimination"
  | 6 => .object "CnfXorSolver$State"
  | _ => .object "CnfXorSolver$Trail"
abbrev wsX70 : List Cond := u_ws RX7 TX7 8
theorem nmX7 : ∀ a, a < 8 → ∀ b, b < 8 → a ≠ b → (TX7 a).2.1 ≠ (TX7 b).2.1 := by decide +kernel
theorem tyX7_ok : ∀ k, k < 8 → parseFieldDescriptor (TX7 k).2.2.1 = some (tyX7 k) := by decide +kernel
abbrev cX7_init : ByteArray := prog_1_method_1_code
def yX7_init : MethodName := ⟨RX7, "<init>", "()V"⟩
abbrev cX7_append : ByteArray := prog_1_method_2_code
def yX7_append : MethodName := ⟨RX7, "append", "(I)I"⟩
abbrev cX7_clearText : ByteArray := prog_1_method_3_code
def yX7_clearText : MethodName := ⟨RX7, "clearText", "()I"⟩
abbrev cX7_errorPosition : ByteArray := prog_1_method_4_code
def yX7_errorPosition : MethodName := ⟨RX7, "errorPosition", "()I"⟩
abbrev cX7_load : ByteArray := prog_1_method_5_code
def yX7_load : MethodName := ⟨RX7, "load", "()I"⟩
abbrev cX7_constraintCount : ByteArray := prog_1_method_6_code
def yX7_constraintCount : MethodName := ⟨RX7, "constraintCount", "()I"⟩
abbrev cX7_isParity : ByteArray := prog_1_method_7_code
def yX7_isParity : MethodName := ⟨RX7, "isParity", "(I)Z"⟩
abbrev cX7_variables : ByteArray := prog_1_method_8_code
def yX7_variables : MethodName := ⟨RX7, "variables", "(I)I"⟩
abbrev cX7_negated : ByteArray := prog_1_method_9_code
def yX7_negated : MethodName := ⟨RX7, "negated", "(I)I"⟩
abbrev cX7_addClause : ByteArray := prog_1_method_10_code
def yX7_addClause : MethodName := ⟨RX7, "addClause", "(II)I"⟩
abbrev cX7_addParity : ByteArray := prog_1_method_11_code
def yX7_addParity : MethodName := ⟨RX7, "addParity", "(II)I"⟩
abbrev cX7_removeConstraint : ByteArray := prog_1_method_12_code
def yX7_removeConstraint : MethodName := ⟨RX7, "removeConstraint", "(I)I"⟩
abbrev cX7_resolve : ByteArray := prog_1_method_13_code
def yX7_resolve : MethodName := ⟨RX7, "resolve", "(III)I"⟩
abbrev cX7_sum : ByteArray := prog_1_method_14_code
def yX7_sum : MethodName := ⟨RX7, "sum", "(II)I"⟩
abbrev cX7_decide : ByteArray := prog_1_method_15_code
def yX7_decide : MethodName := ⟨RX7, "decide", "(I)I"⟩
abbrev cX7_backtrack : ByteArray := prog_1_method_16_code
def yX7_backtrack : MethodName := ⟨RX7, "backtrack", "(I)I"⟩
abbrev cX7_learn : ByteArray := prog_1_method_17_code
def yX7_learn : MethodName := ⟨RX7, "learn", "()I"⟩
abbrev cX7_undo : ByteArray := prog_1_method_18_code
def yX7_undo : MethodName := ⟨RX7, "undo", "()I"⟩
abbrev cX7_level : ByteArray := prog_1_method_19_code
def yX7_level : MethodName := ⟨RX7, "level", "()I"⟩
abbrev cX7_value : ByteArray := prog_1_method_20_code
def yX7_value : MethodName := ⟨RX7, "value", "(I)I"⟩
abbrev cX7_trailLiteral : ByteArray := prog_1_method_21_code
def yX7_trailLiteral : MethodName := ⟨RX7, "trailLiteral", "(I)I"⟩
abbrev cX7_reason : ByteArray := prog_1_method_22_code
def yX7_reason : MethodName := ⟨RX7, "reason", "(I)I"⟩
abbrev cX7_conflict : ByteArray := prog_1_method_23_code
def yX7_conflict : MethodName := ⟨RX7, "conflict", "()I"⟩
abbrev cX7_learnedClause : ByteArray := prog_1_method_24_code
def yX7_learnedClause : MethodName := ⟨RX7, "learnedClause", "()I"⟩
abbrev cX7_modelCount : ByteArray := prog_1_method_25_code
def yX7_modelCount : MethodName := ⟨RX7, "modelCount", "()I"⟩
abbrev cX7_model : ByteArray := prog_1_method_26_code
def yX7_model : MethodName := ⟨RX7, "model", "(I)I"⟩
abbrev cX7_impliesClause : ByteArray := prog_1_method_27_code
def yX7_impliesClause : MethodName := ⟨RX7, "impliesClause", "(II)Z"⟩
abbrev cX7_impliesParity : ByteArray := prog_1_method_28_code
def yX7_impliesParity : MethodName := ⟨RX7, "impliesParity", "(II)Z"⟩
abbrev cX7_core : ByteArray := prog_1_method_29_code
def yX7_core : MethodName := ⟨RX7, "core", "()I"⟩
abbrev cX7_rank : ByteArray := prog_1_method_30_code
def yX7_rank : MethodName := ⟨RX7, "rank", "()I"⟩
abbrev cX7_isConsistent : ByteArray := prog_1_method_31_code
def yX7_isConsistent : MethodName := ⟨RX7, "isConsistent", "()Z"⟩
abbrev cX7_eliminatedRow : ByteArray := prog_1_method_32_code
def yX7_eliminatedRow : MethodName := ⟨RX7, "eliminatedRow", "(I)I"⟩
abbrev cX7_solve : ByteArray := prog_1_method_33_code
def yX7_solve : MethodName := ⟨RX7, "solve", "()I"⟩
abbrev cX7_save : ByteArray := prog_1_method_34_code
def yX7_save : MethodName := ⟨RX7, "save", "(I)I"⟩
abbrev cX7_restore : ByteArray := prog_1_method_35_code
def yX7_restore : MethodName := ⟨RX7, "restore", "(I)I"⟩
abbrev cX7_rebuild : ByteArray := prog_1_method_36_code
def yX7_rebuild : MethodName := ⟨RX7, "rebuild", "()V"⟩
abbrev cX7_addConstraint : ByteArray := prog_1_method_37_code
def yX7_addConstraint : MethodName := ⟨RX7, "addConstraint", "(I)I"⟩
abbrev cX7_learnInto : ByteArray := prog_1_method_38_code
def yX7_learnInto : MethodName := ⟨RX7, "learnInto", "(LCnfXorSolver$State;LCnfXorSolver$Trail;)I"⟩
abbrev cX7_decideOpenVariables : ByteArray := prog_1_method_39_code
def yX7_decideOpenVariables : MethodName := ⟨RX7, "decideOpenVariables", "()V"⟩
abbrev cX7_requireConstraint : ByteArray := prog_1_method_40_code
def yX7_requireConstraint : MethodName := ⟨RX7, "requireConstraint", "(I)V"⟩
abbrev cX7_requireRoom : ByteArray := prog_1_method_41_code
def yX7_requireRoom : MethodName := ⟨RX7, "requireRoom", "()V"⟩
abbrev cX7_requireAnalysis : ByteArray := prog_1_method_42_code
def yX7_requireAnalysis : MethodName := ⟨RX7, "requireAnalysis", "()V"⟩
abbrev cX7_requireVariable : ByteArray := prog_1_method_43_code
def yX7_requireVariable : MethodName := ⟨RX7, "requireVariable", "(I)V"⟩
abbrev cX7_requireSlot : ByteArray := prog_1_method_44_code
def yX7_requireSlot : MethodName := ⟨RX7, "requireSlot", "(I)V"⟩
abbrev cX7_requireClause : ByteArray := prog_1_method_45_code
def yX7_requireClause : MethodName := ⟨RX7, "requireClause", "(II)V"⟩
abbrev cX7_requireParity : ByteArray := prog_1_method_46_code
def yX7_requireParity : MethodName := ⟨RX7, "requireParity", "(II)V"⟩
abbrev cX7_isSet : ByteArray := prog_1_method_47_code
def yX7_isSet : MethodName := ⟨RX7, "isSet", "(I)Z"⟩
abbrev cX7_isVariable : ByteArray := prog_1_method_48_code
def yX7_isVariable : MethodName := ⟨RX7, "isVariable", "(I)Z"⟩
abbrev cX7_contains : ByteArray := prog_1_method_49_code
def yX7_contains : MethodName := ⟨RX7, "contains", "(II)Z"⟩
abbrev cX7_smallestVariable : ByteArray := prog_1_method_50_code
def yX7_smallestVariable : MethodName := ⟨RX7, "smallestVariable", "(I)I"⟩
abbrev cX7_literalOf : ByteArray := prog_1_method_51_code
def yX7_literalOf : MethodName := ⟨RX7, "literalOf", "(IZ)I"⟩
abbrev cX7_variableOf : ByteArray := prog_1_method_52_code
def yX7_variableOf : MethodName := ⟨RX7, "variableOf", "(I)I"⟩
abbrev cX7_clauseCode : ByteArray := prog_1_method_53_code
def yX7_clauseCode : MethodName := ⟨RX7, "clauseCode", "(II)I"⟩
abbrev cX7_parityCode : ByteArray := prog_1_method_54_code
def yX7_parityCode : MethodName := ⟨RX7, "parityCode", "(II)I"⟩
abbrev cX7_isParityCode : ByteArray := prog_1_method_55_code
def yX7_isParityCode : MethodName := ⟨RX7, "isParityCode", "(I)Z"⟩
abbrev cX7_firstPart : ByteArray := prog_1_method_56_code
def yX7_firstPart : MethodName := ⟨RX7, "firstPart", "(I)I"⟩
abbrev cX7_secondPart : ByteArray := prog_1_method_57_code
def yX7_secondPart : MethodName := ⟨RX7, "secondPart", "(I)I"⟩
abbrev cX7_variablesOf : ByteArray := prog_1_method_58_code
def yX7_variablesOf : MethodName := ⟨RX7, "variablesOf", "(I)I"⟩
abbrev cX7_isViolated : ByteArray := prog_1_method_59_code
def yX7_isViolated : MethodName := ⟨RX7, "isViolated", "(II)Z"⟩
def RX8 : String := "CnfXorSolverModel"
def TX8 : u_T := fun k => match k with
  | 0 => ("CnfXorSolverModel", "refusal", "I", false)
  | 1 => ("CnfXorSolverModel", "now", "[I", true)
  | 2 => ("CnfXorSolverModel", "trial", "[I", true)
  | 3 => ("CnfXorSolverModel", "diary", "[I", true)
  | 4 => ("CnfXorSolverModel", "acts", "I", false)
  | 5 => ("CnfXorSolverModel", "next", "I", false)
  | 6 => ("CnfXorSolverModel", "kept", "[I", true)
  | 7 => ("CnfXorSolverModel", "isKept", "[Z", true)
  | 8 => ("CnfXorSolverModel", "assigned", "I", false)
  | 9 => ("CnfXorSolverModel", "trues", "I", false)
  | 10 => ("CnfXorSolverModel", "trail", "[I", true)
  | 11 => ("CnfXorSolverModel", "trailSize", "I", false)
  | 12 => ("CnfXorSolverModel", "level", "I", false)
  | 13 => ("CnfXorSolverModel", "levelOf", "[I", true)
  | 14 => ("CnfXorSolverModel", "reasonOf", "[I", true)
  | 15 => ("CnfXorSolverModel", "placeOf", "[I", true)
  | 16 => ("CnfXorSolverModel", "conflict", "I", false)
  | 17 => ("CnfXorSolverModel", "learnedP", "I", false)
  | 18 => ("CnfXorSolverModel", "learnedN", "I", false)
  | 19 => ("CnfXorSolverModel", "script", "[I", true)
  | 20 => ("CnfXorSolverModel", "scriptSize", "I", false)
  | 21 => ("CnfXorSolverModel", "spot", "I", false)
  | 22 => ("CnfXorSolverModel", "read", "[I", true)
  | 23 => ("CnfXorSolverModel", "lines", "[I", true)
  | 24 => ("CnfXorSolverModel", "lineCount", "I", false)
  | _ => ("CnfXorSolverModel", "isSound", "Z", false)
def tyX8 : Nat → FieldType := fun k => match k with
  | 0 => .int
  | 1 => .array .int
  | 2 => .array .int
  | 3 => .array .int
  | 4 => .int
  | 5 => .int
  | 6 => .array .int
  | 7 => .array .boolean
  | 8 => .int
  | 9 => .int
  | 10 => .array .int
  | 11 => .int
  | 12 => .int
  | 13 => .array .int
  | 14 => .array .int
  | 15 => .array .int
  | 16 => .int
  | 17 => .int
  | 18 => .int
  | 19 => .array .int
  | 20 => .int
  | 21 => .int
  | 22 => .array .int
  | 23 => .array .int
  | 24 => .int
  | _ => .boolean
abbrev wsX80 : List Cond := u_ws RX8 TX8 26
theorem nmX8 : ∀ a, a < 26 → ∀ b, b < 26 → a ≠ b → (TX8 a).2.1 ≠ (TX8 b).2.1 := by decide +kernel
theorem tyX8_ok : ∀ k, k < 26 → parseFieldDescriptor (TX8 k).2.2.1 = some (tyX8 k) := by decide +kernel
abbrev cX8_init : ByteArray := prog_10_method_1_code
def yX8_init : MethodName := ⟨RX8, "<init>", "()V"⟩
abbrev cX8_thrown : ByteArray := prog_10_method_2_code
def yX8_thrown : MethodName := ⟨RX8, "thrown", "()I"⟩
abbrev cX8_refused : ByteArray := prog_10_method_3_code
def yX8_refused : MethodName := ⟨RX8, "refused", "(I)Z"⟩
abbrev cX8_in : ByteArray := prog_10_method_4_code
def yX8_in : MethodName := ⟨RX8, "in", "(JJJ)Z"⟩
abbrev cX8_has : ByteArray := prog_10_method_5_code
def yX8_has : MethodName := ⟨RX8, "has", "(II)Z"⟩
abbrev cX8_bits : ByteArray := prog_10_method_6_code
def yX8_bits : MethodName := ⟨RX8, "bits", "(I)I"⟩
abbrev cX8_lowest : ByteArray := prog_10_method_7_code
def yX8_lowest : MethodName := ⟨RX8, "lowest", "(I)I"⟩
abbrev cX8_copy : ByteArray := prog_10_method_8_code
def yX8_copy : MethodName := ⟨RX8, "copy", "([I[I)V"⟩
abbrev cX8_variablesOf : ByteArray := prog_10_method_9_code
def yX8_variablesOf : MethodName := ⟨RX8, "variablesOf", "([II)I"⟩
abbrev cX8_isSatisfied : ByteArray := prog_10_method_10_code
def yX8_isSatisfied : MethodName := ⟨RX8, "isSatisfied", "([III)Z"⟩
abbrev cX8_addTo : ByteArray := prog_10_method_11_code
def yX8_addTo : MethodName := ⟨RX8, "addTo", "([IIII)V"⟩
abbrev cX8_assign : ByteArray := prog_10_method_12_code
def yX8_assign : MethodName := ⟨RX8, "assign", "(IZI)V"⟩
abbrev cX8_stateOf : ByteArray := prog_10_method_13_code
def yX8_stateOf : MethodName := ⟨RX8, "stateOf", "([II)I"⟩
abbrev cX8_propagate : ByteArray := prog_10_method_14_code
def yX8_propagate : MethodName := ⟨RX8, "propagate", "([I)V"⟩
abbrev cX8_build : ByteArray := prog_10_method_15_code
def yX8_build : MethodName := ⟨RX8, "build", "([I)V"⟩
abbrev cX8_act : ByteArray := prog_10_method_16_code
def yX8_act : MethodName := ⟨RX8, "act", "()V"⟩
abbrev cX8_append : ByteArray := prog_10_method_17_code
def yX8_append : MethodName := ⟨RX8, "append", "(I)I"⟩
abbrev cX8_clearText : ByteArray := prog_10_method_18_code
def yX8_clearText : MethodName := ⟨RX8, "clearText", "()I"⟩
abbrev cX8_character : ByteArray := prog_10_method_19_code
def yX8_character : MethodName := ⟨RX8, "character", "()I"⟩
abbrev cX8_readParity : ByteArray := prog_10_method_20_code
def yX8_readParity : MethodName := ⟨RX8, "readParity", "()Z"⟩
abbrev cX8_readClause : ByteArray := prog_10_method_21_code
def yX8_readClause : MethodName := ⟨RX8, "readClause", "()Z"⟩
abbrev cX8_readText : ByteArray := prog_10_method_22_code
def yX8_readText : MethodName := ⟨RX8, "readText", "()I"⟩
abbrev cX8_errorPosition : ByteArray := prog_10_method_23_code
def yX8_errorPosition : MethodName := ⟨RX8, "errorPosition", "()I"⟩
abbrev cX8_load : ByteArray := prog_10_method_24_code
def yX8_load : MethodName := ⟨RX8, "load", "()I"⟩
abbrev cX8_isConstraint : ByteArray := prog_10_method_25_code
def yX8_isConstraint : MethodName := ⟨RX8, "isConstraint", "(I)Z"⟩
abbrev cX8_constraintCount : ByteArray := prog_10_method_26_code
def yX8_constraintCount : MethodName := ⟨RX8, "constraintCount", "()I"⟩
abbrev cX8_isParity : ByteArray := prog_10_method_27_code
def yX8_isParity : MethodName := ⟨RX8, "isParity", "(I)Z"⟩
abbrev cX8_variables : ByteArray := prog_10_method_28_code
def yX8_variables : MethodName := ⟨RX8, "variables", "(I)I"⟩
abbrev cX8_negated : ByteArray := prog_10_method_29_code
def yX8_negated : MethodName := ⟨RX8, "negated", "(I)I"⟩
abbrev cX8_isClause : ByteArray := prog_10_method_30_code
def yX8_isClause : MethodName := ⟨RX8, "isClause", "(II)Z"⟩
abbrev cX8_isSum : ByteArray := prog_10_method_31_code
def yX8_isSum : MethodName := ⟨RX8, "isSum", "(II)Z"⟩
abbrev cX8_added : ByteArray := prog_10_method_32_code
def yX8_added : MethodName := ⟨RX8, "added", "(III)I"⟩
abbrev cX8_addClause : ByteArray := prog_10_method_33_code
def yX8_addClause : MethodName := ⟨RX8, "addClause", "(II)I"⟩
abbrev cX8_addParity : ByteArray := prog_10_method_34_code
def yX8_addParity : MethodName := ⟨RX8, "addParity", "(II)I"⟩
abbrev cX8_removeConstraint : ByteArray := prog_10_method_35_code
def yX8_removeConstraint : MethodName := ⟨RX8, "removeConstraint", "(I)I"⟩
abbrev cX8_resolve : ByteArray := prog_10_method_36_code
def yX8_resolve : MethodName := ⟨RX8, "resolve", "(III)I"⟩
abbrev cX8_sum : ByteArray := prog_10_method_37_code
def yX8_sum : MethodName := ⟨RX8, "sum", "(II)I"⟩
abbrev cX8_decide : ByteArray := prog_10_method_38_code
def yX8_decide : MethodName := ⟨RX8, "decide", "(I)I"⟩
abbrev cX8_backtrack : ByteArray := prog_10_method_39_code
def yX8_backtrack : MethodName := ⟨RX8, "backtrack", "(I)I"⟩
abbrev cX8_canLearn : ByteArray := prog_10_method_40_code
def yX8_canLearn : MethodName := ⟨RX8, "canLearn", "()Z"⟩
abbrev cX8_atLevel : ByteArray := prog_10_method_41_code
def yX8_atLevel : MethodName := ⟨RX8, "atLevel", "(I)I"⟩
abbrev cX8_latest : ByteArray := prog_10_method_42_code
def yX8_latest : MethodName := ⟨RX8, "latest", "(I)I"⟩
abbrev cX8_analyse : ByteArray := prog_10_method_43_code
def yX8_analyse : MethodName := ⟨RX8, "analyse", "([I)I"⟩
abbrev cX8_learn : ByteArray := prog_10_method_44_code
def yX8_learn : MethodName := ⟨RX8, "learn", "()I"⟩
abbrev cX8_undo : ByteArray := prog_10_method_45_code
def yX8_undo : MethodName := ⟨RX8, "undo", "()I"⟩
abbrev cX8_level : ByteArray := prog_10_method_46_code
def yX8_level : MethodName := ⟨RX8, "level", "()I"⟩
abbrev cX8_value : ByteArray := prog_10_method_47_code
def yX8_value : MethodName := ⟨RX8, "value", "(I)I"⟩
abbrev cX8_trailLiteral : ByteArray := prog_10_method_48_code
def yX8_trailLiteral : MethodName := ⟨RX8, "trailLiteral", "(I)I"⟩
abbrev cX8_reason : ByteArray := prog_10_method_49_code
def yX8_reason : MethodName := ⟨RX8, "reason", "(I)I"⟩
abbrev cX8_conflict : ByteArray := prog_10_method_50_code
def yX8_conflict : MethodName := ⟨RX8, "conflict", "()I"⟩
abbrev cX8_learnedClause : ByteArray := prog_10_method_51_code
def yX8_learnedClause : MethodName := ⟨RX8, "learnedClause", "()I"⟩
abbrev cX8_isModel : ByteArray := prog_10_method_52_code
def yX8_isModel : MethodName := ⟨RX8, "isModel", "(II)Z"⟩
abbrev cX8_everything : ByteArray := prog_10_method_53_code
def yX8_everything : MethodName := ⟨RX8, "everything", "()I"⟩
abbrev cX8_modelCount : ByteArray := prog_10_method_54_code
def yX8_modelCount : MethodName := ⟨RX8, "modelCount", "()I"⟩
abbrev cX8_model : ByteArray := prog_10_method_55_code
def yX8_model : MethodName := ⟨RX8, "model", "(I)I"⟩
abbrev cX8_implies : ByteArray := prog_10_method_56_code
def yX8_implies : MethodName := ⟨RX8, "implies", "(III)Z"⟩
abbrev cX8_impliesClause : ByteArray := prog_10_method_57_code
def yX8_impliesClause : MethodName := ⟨RX8, "impliesClause", "(II)Z"⟩
abbrev cX8_impliesParity : ByteArray := prog_10_method_58_code
def yX8_impliesParity : MethodName := ⟨RX8, "impliesParity", "(II)Z"⟩
abbrev cX8_hasModel : ByteArray := prog_10_method_59_code
def yX8_hasModel : MethodName := ⟨RX8, "hasModel", "(I)Z"⟩
abbrev cX8_core : ByteArray := prog_10_method_60_code
def yX8_core : MethodName := ⟨RX8, "core", "()I"⟩
abbrev cX8_eliminate : ByteArray := prog_10_method_61_code
def yX8_eliminate : MethodName := ⟨RX8, "eliminate", "()V"⟩
abbrev cX8_rank : ByteArray := prog_10_method_62_code
def yX8_rank : MethodName := ⟨RX8, "rank", "()I"⟩
abbrev cX8_isConsistent : ByteArray := prog_10_method_63_code
def yX8_isConsistent : MethodName := ⟨RX8, "isConsistent", "()Z"⟩
abbrev cX8_eliminatedRow : ByteArray := prog_10_method_64_code
def yX8_eliminatedRow : MethodName := ⟨RX8, "eliminatedRow", "(I)I"⟩
abbrev cX8_solved : ByteArray := prog_10_method_65_code
def yX8_solved : MethodName := ⟨RX8, "solved", "()I"⟩
abbrev cX8_solve : ByteArray := prog_10_method_66_code
def yX8_solve : MethodName := ⟨RX8, "solve", "()I"⟩
abbrev cX8_save : ByteArray := prog_10_method_67_code
def yX8_save : MethodName := ⟨RX8, "save", "(I)I"⟩
abbrev cX8_restore : ByteArray := prog_10_method_68_code
def yX8_restore : MethodName := ⟨RX8, "restore", "(I)I"⟩
def RJ6 : String := "java/lang/Integer"
def TJ6 : u_T := fun k => match k with
  | _ => ("", "", "", false)
def tyJ6 : Nat → FieldType := fun k => match k with
  | _ => .int
abbrev wsJ60 : List Cond := u_ws RJ6 TJ6 0
theorem nmJ6 : ∀ a, a < 0 → ∀ b, b < 0 → a ≠ b → (TJ6 a).2.1 ≠ (TJ6 b).2.1 := by decide +kernel
theorem tyJ6_ok : ∀ k, k < 0 → parseFieldDescriptor (TJ6 k).2.2.1 = some (tyJ6 k) := by decide +kernel
abbrev cJ6_bitCount_0f7a4 : ByteArray := prog_15_method_49_code
def yJ6_bitCount_0f7a4 : MethodName := ⟨RJ6, "bitCount", "(I)I"⟩
def RJ9 : String := "java/lang/Math"
def TJ9 : u_T := fun k => match k with
  | _ => ("", "", "", false)
def tyJ9 : Nat → FieldType := fun k => match k with
  | _ => .int
abbrev wsJ90 : List Cond := u_ws RJ9 TJ9 0
theorem nmJ9 : ∀ a, a < 0 → ∀ b, b < 0 → a ≠ b → (TJ9 a).2.1 ≠ (TJ9 b).2.1 := by decide +kernel
theorem tyJ9_ok : ∀ k, k < 0 → parseFieldDescriptor (TJ9 k).2.2.1 = some (tyJ9 k) := by decide +kernel
abbrev cJ9_max_7cf53 : ByteArray := prog_16_method_65_code
def yJ9_max_7cf53 : MethodName := ⟨RJ9, "max", "(II)I"⟩
abbrev cJ9_min_7cf53 : ByteArray := prog_16_method_69_code
def yJ9_min_7cf53 : MethodName := ⟨RJ9, "min", "(II)I"⟩
def RJ0 : String := "java/lang/String"
def TJ0 : u_T := fun k => match k with
  | _ => ("", "", "", false)
def tyJ0 : Nat → FieldType := fun k => match k with
  | _ => .int
abbrev wsJ00 : List Cond := u_ws RJ0 TJ0 0
theorem nmJ0 : ∀ a, a < 0 → ∀ b, b < 0 → a ≠ b → (TJ0 a).2.1 ≠ (TJ0 b).2.1 := by decide +kernel
theorem tyJ0_ok : ∀ k, k < 0 → parseFieldDescriptor (TJ0 k).2.2.1 = some (tyJ0 k) := by decide +kernel
def RL : String := "CnfXorSolverLaw"
abbrev cL_append : ByteArray := method_3_code
def yL_append : MethodName := ⟨RL, "append", "(LCnfXorSolver;I[J)I"⟩
abbrev cL_load : ByteArray := method_4_code
def yL_load : MethodName := ⟨RL, "load", "(LCnfXorSolver;[J)I"⟩
abbrev cL_isParity : ByteArray := method_5_code
def yL_isParity : MethodName := ⟨RL, "isParity", "(LCnfXorSolver;I[J)I"⟩
abbrev cL_variables : ByteArray := method_6_code
def yL_variables : MethodName := ⟨RL, "variables", "(LCnfXorSolver;I[J)I"⟩
abbrev cL_negated : ByteArray := method_7_code
def yL_negated : MethodName := ⟨RL, "negated", "(LCnfXorSolver;I[J)I"⟩
abbrev cL_addClause : ByteArray := method_8_code
def yL_addClause : MethodName := ⟨RL, "addClause", "(LCnfXorSolver;II[J)I"⟩
abbrev cL_addParity : ByteArray := method_9_code
def yL_addParity : MethodName := ⟨RL, "addParity", "(LCnfXorSolver;II[J)I"⟩
abbrev cL_removeConstraint : ByteArray := method_10_code
def yL_removeConstraint : MethodName := ⟨RL, "removeConstraint", "(LCnfXorSolver;I[J)I"⟩
abbrev cL_resolve : ByteArray := method_11_code
def yL_resolve : MethodName := ⟨RL, "resolve", "(LCnfXorSolver;III[J)I"⟩
abbrev cL_sum : ByteArray := method_12_code
def yL_sum : MethodName := ⟨RL, "sum", "(LCnfXorSolver;II[J)I"⟩
abbrev cL_decide : ByteArray := method_13_code
def yL_decide : MethodName := ⟨RL, "decide", "(LCnfXorSolver;I[J)I"⟩
abbrev cL_backtrack : ByteArray := method_14_code
def yL_backtrack : MethodName := ⟨RL, "backtrack", "(LCnfXorSolver;I[J)I"⟩
abbrev cL_learn : ByteArray := method_15_code
def yL_learn : MethodName := ⟨RL, "learn", "(LCnfXorSolver;[J)I"⟩
abbrev cL_undo : ByteArray := method_16_code
def yL_undo : MethodName := ⟨RL, "undo", "(LCnfXorSolver;[J)I"⟩
abbrev cL_value : ByteArray := method_17_code
def yL_value : MethodName := ⟨RL, "value", "(LCnfXorSolver;I[J)I"⟩
abbrev cL_trailLiteral : ByteArray := method_18_code
def yL_trailLiteral : MethodName := ⟨RL, "trailLiteral", "(LCnfXorSolver;I[J)I"⟩
abbrev cL_reason : ByteArray := method_19_code
def yL_reason : MethodName := ⟨RL, "reason", "(LCnfXorSolver;I[J)I"⟩
abbrev cL_learnedClause : ByteArray := method_20_code
def yL_learnedClause : MethodName := ⟨RL, "learnedClause", "(LCnfXorSolver;[J)I"⟩
abbrev cL_impliesClause : ByteArray := method_21_code
def yL_impliesClause : MethodName := ⟨RL, "impliesClause", "(LCnfXorSolver;II[J)I"⟩
abbrev cL_impliesParity : ByteArray := method_22_code
def yL_impliesParity : MethodName := ⟨RL, "impliesParity", "(LCnfXorSolver;II[J)I"⟩
abbrev cL_eliminatedRow : ByteArray := method_23_code
def yL_eliminatedRow : MethodName := ⟨RL, "eliminatedRow", "(LCnfXorSolver;I[J)I"⟩
abbrev cL_save : ByteArray := method_24_code
def yL_save : MethodName := ⟨RL, "save", "(LCnfXorSolver;I[J)I"⟩
abbrev cL_restore : ByteArray := method_25_code
def yL_restore : MethodName := ⟨RL, "restore", "(LCnfXorSolver;I[J)I"⟩
abbrev cL_law : ByteArray := code
def yL_law : MethodName := ⟨RL, "law", "([I)Z"⟩
abbrev vwCl : List vw_C := [(RX0, TX0, 3), (RX1, TX1, 2), (RX2, TX2, 6), (RX3, TX3, 4), (RX4, TX4, 2), (RX5, TX5, 3), (RX6, TX6, 9), (RX7, TX7, 8), (RX8, TX8, 26)]
end
section
theorem dX0_init_0 : decode cX0_init 0 = .ok (.aload_n 0, 1) := by decide +kernel
theorem dX0_init_1 : decode cX0_init 1 = .ok (.invokespecial 3, 3) := by decide +kernel
theorem dX0_init_4 : decode cX0_init 4 = .ok (.aload_n 0, 1) := by decide +kernel
theorem dX0_init_5 : decode cX0_init 5 = .ok (.bipush 8, 2) := by decide +kernel
theorem dX0_init_7 : decode cX0_init 7 = .ok (.newarray .int, 2) := by decide +kernel
theorem dX0_init_9 : decode cX0_init 9 = .ok (.putfield 9, 3) := by decide +kernel
theorem dX0_init_12 : decode cX0_init 12 = .ok (.aload_n 0, 1) := by decide +kernel
theorem dX0_init_13 : decode cX0_init 13 = .ok (.iconst 0, 1) := by decide +kernel
theorem dX0_init_14 : decode cX0_init 14 = .ok (.putfield 15, 3) := by decide +kernel
theorem dX0_init_17 : decode cX0_init 17 = .ok (.aload_n 0, 1) := by decide +kernel
theorem dX0_init_18 : decode cX0_init 18 = .ok (.iconst 1, 1) := by decide +kernel
theorem dX0_init_19 : decode cX0_init 19 = .ok (.putfield 19, 3) := by decide +kernel
theorem dX0_init_22 : decode cX0_init 22 = .ok (.return_, 1) := by decide +kernel
theorem dX0_run_0 : decode cX0_run 0 = .ok (.iconst 0, 1) := by decide +kernel
theorem dX0_run_1 : decode cX0_run 1 = .ok (.istore_n 2, 1) := by decide +kernel
theorem dX0_run_2 : decode cX0_run 2 = .ok (.iload_n 2, 1) := by decide +kernel
theorem dX0_run_3 : decode cX0_run 3 = .ok (.bipush 8, 2) := by decide +kernel
theorem dX0_run_5 : decode cX0_run 5 = .ok (.if_icmp .ge 16, 3) := by decide +kernel
theorem dX0_run_8 : decode cX0_run 8 = .ok (.aload_n 0, 1) := by decide +kernel
theorem dX0_run_9 : decode cX0_run 9 = .ok (.getfield 9, 3) := by decide +kernel
theorem dX0_run_12 : decode cX0_run 12 = .ok (.iload_n 2, 1) := by decide +kernel
theorem dX0_run_13 : decode cX0_run 13 = .ok (.iconst 0, 1) := by decide +kernel
theorem dX0_run_14 : decode cX0_run 14 = .ok (.iastore, 1) := by decide +kernel
theorem dX0_run_15 : decode cX0_run 15 = .ok (.iinc 2 1, 3) := by decide +kernel
theorem dX0_run_18 : decode cX0_run 18 = .ok (.goto (-16), 3) := by decide +kernel
theorem dX0_run_21 : decode cX0_run 21 = .ok (.aload_n 0, 1) := by decide +kernel
theorem dX0_run_22 : decode cX0_run 22 = .ok (.iconst 0, 1) := by decide +kernel
theorem dX0_run_23 : decode cX0_run 23 = .ok (.putfield 15, 3) := by decide +kernel
theorem dX0_run_26 : decode cX0_run 26 = .ok (.aload_n 0, 1) := by decide +kernel
theorem dX0_run_27 : decode cX0_run 27 = .ok (.iconst 1, 1) := by decide +kernel
theorem dX0_run_28 : decode cX0_run 28 = .ok (.putfield 19, 3) := by decide +kernel
theorem dX0_run_31 : decode cX0_run 31 = .ok (.iconst 0, 1) := by decide +kernel
theorem dX0_run_32 : decode cX0_run 32 = .ok (.istore_n 2, 1) := by decide +kernel
theorem dX0_run_33 : decode cX0_run 33 = .ok (.iload_n 2, 1) := by decide +kernel
theorem dX0_run_34 : decode cX0_run 34 = .ok (.aload_n 1, 1) := by decide +kernel
theorem dX0_run_35 : decode cX0_run 35 = .ok (.getfield 23, 3) := by decide +kernel
theorem dX0_run_38 : decode cX0_run 38 = .ok (.if_icmp .ge 34, 3) := by decide +kernel
theorem dX0_run_41 : decode cX0_run 41 = .ok (.aload_n 1, 1) := by decide +kernel
theorem dX0_run_42 : decode cX0_run 42 = .ok (.iload_n 2, 1) := by decide +kernel
theorem dX0_run_43 : decode cX0_run 43 = .ok (.invokevirtual 28, 3) := by decide +kernel
theorem dX0_run_46 : decode cX0_run 46 = .ok (.istore_n 3, 1) := by decide +kernel
theorem dX0_run_47 : decode cX0_run 47 = .ok (.iload_n 3, 1) := by decide +kernel
theorem dX0_run_48 : decode cX0_run 48 = .ok (.invokestatic 32, 3) := by decide +kernel
theorem dX0_run_51 : decode cX0_run 51 = .ok (.ifCond .eq 15, 3) := by decide +kernel
theorem dX0_run_54 : decode cX0_run 54 = .ok (.aload_n 0, 1) := by decide +kernel
theorem dX0_run_55 : decode cX0_run 55 = .ok (.aload_n 0, 1) := by decide +kernel
theorem dX0_run_56 : decode cX0_run 56 = .ok (.iload_n 3, 1) := by decide +kernel
theorem dX0_run_57 : decode cX0_run 57 = .ok (.ldc 36, 2) := by decide +kernel
theorem dX0_run_59 : decode cX0_run 59 = .ok (.iand, 1) := by decide +kernel
theorem dX0_run_60 : decode cX0_run 60 = .ok (.invokevirtual 37, 3) := by decide +kernel
theorem dX0_run_63 : decode cX0_run 63 = .ok (.invokevirtual 40, 3) := by decide +kernel
theorem dX0_run_66 : decode cX0_run 66 = .ok (.iinc 2 1, 3) := by decide +kernel
theorem dX0_run_69 : decode cX0_run 69 = .ok (.goto (-36), 3) := by decide +kernel
theorem dX0_run_72 : decode cX0_run 72 = .ok (.return_, 1) := by decide +kernel
theorem dX0_reduced_0 : decode cX0_reduced 0 = .ok (.iload_n 1, 1) := by decide +kernel
theorem dX0_reduced_1 : decode cX0_reduced 1 = .ok (.istore_n 2, 1) := by decide +kernel
theorem dX0_reduced_2 : decode cX0_reduced 2 = .ok (.iconst 0, 1) := by decide +kernel
theorem dX0_reduced_3 : decode cX0_reduced 3 = .ok (.istore_n 3, 1) := by decide +kernel
theorem dX0_reduced_4 : decode cX0_reduced 4 = .ok (.iload_n 3, 1) := by decide +kernel
theorem dX0_reduced_5 : decode cX0_reduced 5 = .ok (.bipush 8, 2) := by decide +kernel
theorem dX0_reduced_7 : decode cX0_reduced 7 = .ok (.if_icmp .ge 26, 3) := by decide +kernel
theorem dX0_reduced_10 : decode cX0_reduced 10 = .ok (.iload_n 2, 1) := by decide +kernel
theorem dX0_reduced_11 : decode cX0_reduced 11 = .ok (.iload_n 3, 1) := by decide +kernel
theorem dX0_reduced_12 : decode cX0_reduced 12 = .ok (.invokestatic 44, 3) := by decide +kernel
theorem dX0_reduced_15 : decode cX0_reduced 15 = .ok (.ifCond .eq 12, 3) := by decide +kernel
theorem dX0_reduced_18 : decode cX0_reduced 18 = .ok (.iload_n 2, 1) := by decide +kernel
theorem dX0_reduced_19 : decode cX0_reduced 19 = .ok (.aload_n 0, 1) := by decide +kernel
theorem dX0_reduced_20 : decode cX0_reduced 20 = .ok (.getfield 9, 3) := by decide +kernel
theorem dX0_reduced_23 : decode cX0_reduced 23 = .ok (.iload_n 3, 1) := by decide +kernel
theorem dX0_reduced_24 : decode cX0_reduced 24 = .ok (.iaload, 1) := by decide +kernel
theorem dX0_reduced_25 : decode cX0_reduced 25 = .ok (.ixor, 1) := by decide +kernel
theorem dX0_reduced_26 : decode cX0_reduced 26 = .ok (.istore_n 2, 1) := by decide +kernel
theorem dX0_reduced_27 : decode cX0_reduced 27 = .ok (.iinc 3 1, 3) := by decide +kernel
theorem dX0_reduced_30 : decode cX0_reduced 30 = .ok (.goto (-26), 3) := by decide +kernel
theorem dX0_reduced_33 : decode cX0_reduced 33 = .ok (.iload_n 2, 1) := by decide +kernel
theorem dX0_reduced_34 : decode cX0_reduced 34 = .ok (.ireturn, 1) := by decide +kernel
theorem dX0_insert_0 : decode cX0_insert 0 = .ok (.iload_n 1, 1) := by decide +kernel
theorem dX0_insert_1 : decode cX0_insert 1 = .ok (.invokestatic 48, 3) := by decide +kernel
theorem dX0_insert_4 : decode cX0_insert 4 = .ok (.invokestatic 51, 3) := by decide +kernel
theorem dX0_insert_7 : decode cX0_insert 7 = .ok (.istore_n 2, 1) := by decide +kernel
theorem dX0_insert_8 : decode cX0_insert 8 = .ok (.iload_n 2, 1) := by decide +kernel
theorem dX0_insert_9 : decode cX0_insert 9 = .ok (.invokestatic 54, 3) := by decide +kernel
theorem dX0_insert_12 : decode cX0_insert 12 = .ok (.ifCond .ne 24, 3) := by decide +kernel
theorem dX0_insert_15 : decode cX0_insert 15 = .ok (.aload_n 0, 1) := by decide +kernel
theorem dX0_insert_16 : decode cX0_insert 16 = .ok (.aload_n 0, 1) := by decide +kernel
theorem dX0_insert_17 : decode cX0_insert 17 = .ok (.getfield 19, 3) := by decide +kernel
theorem dX0_insert_20 : decode cX0_insert 20 = .ok (.ifCond .eq 11, 3) := by decide +kernel
theorem dX0_insert_23 : decode cX0_insert 23 = .ok (.iload_n 1, 1) := by decide +kernel
theorem dX0_insert_24 : decode cX0_insert 24 = .ok (.ifCond .ne 7, 3) := by decide +kernel
theorem dX0_insert_27 : decode cX0_insert 27 = .ok (.iconst 1, 1) := by decide +kernel
theorem dX0_insert_28 : decode cX0_insert 28 = .ok (.goto 4, 3) := by decide +kernel
theorem dX0_insert_31 : decode cX0_insert 31 = .ok (.iconst 0, 1) := by decide +kernel
theorem dX0_insert_32 : decode cX0_insert 32 = .ok (.putfield 19, 3) := by decide +kernel
theorem dX0_insert_35 : decode cX0_insert 35 = .ok (.return_, 1) := by decide +kernel
theorem dX0_insert_36 : decode cX0_insert 36 = .ok (.iconst 0, 1) := by decide +kernel
theorem dX0_insert_37 : decode cX0_insert 37 = .ok (.istore_n 3, 1) := by decide +kernel
theorem dX0_insert_38 : decode cX0_insert 38 = .ok (.iload_n 3, 1) := by decide +kernel
theorem dX0_insert_39 : decode cX0_insert 39 = .ok (.bipush 8, 2) := by decide +kernel
theorem dX0_insert_41 : decode cX0_insert 41 = .ok (.if_icmp .ge 32, 3) := by decide +kernel
theorem dX0_insert_44 : decode cX0_insert 44 = .ok (.aload_n 0, 1) := by decide +kernel
theorem dX0_insert_45 : decode cX0_insert 45 = .ok (.getfield 9, 3) := by decide +kernel
theorem dX0_insert_48 : decode cX0_insert 48 = .ok (.iload_n 3, 1) := by decide +kernel
theorem dX0_insert_49 : decode cX0_insert 49 = .ok (.iaload, 1) := by decide +kernel
theorem dX0_insert_50 : decode cX0_insert 50 = .ok (.iload_n 2, 1) := by decide +kernel
theorem dX0_insert_51 : decode cX0_insert 51 = .ok (.invokestatic 44, 3) := by decide +kernel
theorem dX0_insert_54 : decode cX0_insert 54 = .ok (.ifCond .eq 13, 3) := by decide +kernel
theorem dX0_insert_57 : decode cX0_insert 57 = .ok (.aload_n 0, 1) := by decide +kernel
theorem dX0_insert_58 : decode cX0_insert 58 = .ok (.getfield 9, 3) := by decide +kernel
theorem dX0_insert_61 : decode cX0_insert 61 = .ok (.iload_n 3, 1) := by decide +kernel
theorem dX0_insert_62 : decode cX0_insert 62 = .ok (.dup2, 1) := by decide +kernel
theorem dX0_insert_63 : decode cX0_insert 63 = .ok (.iaload, 1) := by decide +kernel
theorem dX0_insert_64 : decode cX0_insert 64 = .ok (.iload_n 1, 1) := by decide +kernel
theorem dX0_insert_65 : decode cX0_insert 65 = .ok (.ixor, 1) := by decide +kernel
theorem dX0_insert_66 : decode cX0_insert 66 = .ok (.iastore, 1) := by decide +kernel
theorem dX0_insert_67 : decode cX0_insert 67 = .ok (.iinc 3 1, 3) := by decide +kernel
theorem dX0_insert_70 : decode cX0_insert 70 = .ok (.goto (-32), 3) := by decide +kernel
theorem dX0_insert_73 : decode cX0_insert 73 = .ok (.aload_n 0, 1) := by decide +kernel
theorem dX0_insert_74 : decode cX0_insert 74 = .ok (.getfield 9, 3) := by decide +kernel
theorem dX0_insert_77 : decode cX0_insert 77 = .ok (.iload_n 2, 1) := by decide +kernel
theorem dX0_insert_78 : decode cX0_insert 78 = .ok (.iload_n 1, 1) := by decide +kernel
theorem dX0_insert_79 : decode cX0_insert 79 = .ok (.iastore, 1) := by decide +kernel
theorem dX0_insert_80 : decode cX0_insert 80 = .ok (.aload_n 0, 1) := by decide +kernel
theorem dX0_insert_81 : decode cX0_insert 81 = .ok (.dup, 1) := by decide +kernel
theorem dX0_insert_82 : decode cX0_insert 82 = .ok (.getfield 15, 3) := by decide +kernel
theorem dX0_insert_85 : decode cX0_insert 85 = .ok (.iconst 1, 1) := by decide +kernel
theorem dX0_insert_86 : decode cX0_insert 86 = .ok (.iadd, 1) := by decide +kernel
theorem dX0_insert_87 : decode cX0_insert 87 = .ok (.putfield 15, 3) := by decide +kernel
theorem dX0_insert_90 : decode cX0_insert 90 = .ok (.return_, 1) := by decide +kernel
theorem dX0_rowAt_0 : decode cX0_rowAt 0 = .ok (.iconst 0, 1) := by decide +kernel
theorem dX0_rowAt_1 : decode cX0_rowAt 1 = .ok (.istore_n 2, 1) := by decide +kernel
theorem dX0_rowAt_2 : decode cX0_rowAt 2 = .ok (.iconst 0, 1) := by decide +kernel
theorem dX0_rowAt_3 : decode cX0_rowAt 3 = .ok (.istore_n 3, 1) := by decide +kernel
theorem dX0_rowAt_4 : decode cX0_rowAt 4 = .ok (.iload_n 3, 1) := by decide +kernel
theorem dX0_rowAt_5 : decode cX0_rowAt 5 = .ok (.bipush 8, 2) := by decide +kernel
theorem dX0_rowAt_7 : decode cX0_rowAt 7 = .ok (.if_icmp .ge 33, 3) := by decide +kernel
theorem dX0_rowAt_10 : decode cX0_rowAt 10 = .ok (.aload_n 0, 1) := by decide +kernel
theorem dX0_rowAt_11 : decode cX0_rowAt 11 = .ok (.getfield 9, 3) := by decide +kernel
theorem dX0_rowAt_14 : decode cX0_rowAt 14 = .ok (.iload_n 3, 1) := by decide +kernel
theorem dX0_rowAt_15 : decode cX0_rowAt 15 = .ok (.iaload, 1) := by decide +kernel
theorem dX0_rowAt_16 : decode cX0_rowAt 16 = .ok (.ifCond .eq 18, 3) := by decide +kernel
theorem dX0_rowAt_19 : decode cX0_rowAt 19 = .ok (.iload_n 2, 1) := by decide +kernel
theorem dX0_rowAt_20 : decode cX0_rowAt 20 = .ok (.iload_n 1, 1) := by decide +kernel
theorem dX0_rowAt_21 : decode cX0_rowAt 21 = .ok (.if_icmp .ne 10, 3) := by decide +kernel
theorem dX0_rowAt_24 : decode cX0_rowAt 24 = .ok (.aload_n 0, 1) := by decide +kernel
theorem dX0_rowAt_25 : decode cX0_rowAt 25 = .ok (.getfield 9, 3) := by decide +kernel
theorem dX0_rowAt_28 : decode cX0_rowAt 28 = .ok (.iload_n 3, 1) := by decide +kernel
theorem dX0_rowAt_29 : decode cX0_rowAt 29 = .ok (.iaload, 1) := by decide +kernel
theorem dX0_rowAt_30 : decode cX0_rowAt 30 = .ok (.ireturn, 1) := by decide +kernel
theorem dX0_rowAt_31 : decode cX0_rowAt 31 = .ok (.iinc 2 1, 3) := by decide +kernel
theorem dX0_rowAt_34 : decode cX0_rowAt 34 = .ok (.iinc 3 1, 3) := by decide +kernel
theorem dX0_rowAt_37 : decode cX0_rowAt 37 = .ok (.goto (-33), 3) := by decide +kernel
theorem dX0_rowAt_40 : decode cX0_rowAt 40 = .ok (.bipush (-9), 2) := by decide +kernel
theorem dX0_rowAt_42 : decode cX0_rowAt 42 = .ok (.ireturn, 1) := by decide +kernel
theorem dX1_init_0 : decode cX1_init 0 = .ok (.aload_n 0, 1) := by decide +kernel
theorem dX1_init_1 : decode cX1_init 1 = .ok (.invokespecial 3, 3) := by decide +kernel
theorem dX1_init_4 : decode cX1_init 4 = .ok (.aload_n 0, 1) := by decide +kernel
theorem dX1_init_5 : decode cX1_init 5 = .ok (.bipush 24, 2) := by decide +kernel
theorem dX1_init_7 : decode cX1_init 7 = .ok (.newarray .int, 2) := by decide +kernel
theorem dX1_init_9 : decode cX1_init 9 = .ok (.putfield 9, 3) := by decide +kernel
theorem dX1_init_12 : decode cX1_init 12 = .ok (.aload_n 0, 1) := by decide +kernel
theorem dX1_init_13 : decode cX1_init 13 = .ok (.iconst 0, 1) := by decide +kernel
theorem dX1_init_14 : decode cX1_init 14 = .ok (.putfield 15, 3) := by decide +kernel
theorem dX1_init_17 : decode cX1_init 17 = .ok (.return_, 1) := by decide +kernel
theorem dX1_has_0 : decode cX1_has 0 = .ok (.iload_n 1, 1) := by decide +kernel
theorem dX1_has_1 : decode cX1_has 1 = .ok (.ifCond .lt 15, 3) := by decide +kernel
theorem dX1_has_4 : decode cX1_has 4 = .ok (.iload_n 1, 1) := by decide +kernel
theorem dX1_has_5 : decode cX1_has 5 = .ok (.aload_n 0, 1) := by decide +kernel
theorem dX1_has_6 : decode cX1_has 6 = .ok (.getfield 15, 3) := by decide +kernel
theorem dX1_has_9 : decode cX1_has 9 = .ok (.if_icmp .ge 7, 3) := by decide +kernel
theorem dX1_has_12 : decode cX1_has 12 = .ok (.iconst 1, 1) := by decide +kernel
theorem dX1_has_13 : decode cX1_has 13 = .ok (.goto 4, 3) := by decide +kernel
theorem dX1_has_16 : decode cX1_has 16 = .ok (.iconst 0, 1) := by decide +kernel
theorem dX1_has_17 : decode cX1_has 17 = .ok (.ireturn, 1) := by decide +kernel
theorem dX1_isFull_0 : decode cX1_isFull 0 = .ok (.aload_n 0, 1) := by decide +kernel
theorem dX1_isFull_1 : decode cX1_isFull 1 = .ok (.getfield 15, 3) := by decide +kernel
theorem dX1_isFull_4 : decode cX1_isFull 4 = .ok (.bipush 24, 2) := by decide +kernel
theorem dX1_isFull_6 : decode cX1_isFull 6 = .ok (.if_icmp .lt 7, 3) := by decide +kernel
theorem dX1_isFull_9 : decode cX1_isFull 9 = .ok (.iconst 1, 1) := by decide +kernel
theorem dX1_isFull_10 : decode cX1_isFull 10 = .ok (.goto 4, 3) := by decide +kernel
theorem dX1_isFull_13 : decode cX1_isFull 13 = .ok (.iconst 0, 1) := by decide +kernel
theorem dX1_isFull_14 : decode cX1_isFull 14 = .ok (.ireturn, 1) := by decide +kernel
theorem dX1_codeAt_0 : decode cX1_codeAt 0 = .ok (.aload_n 0, 1) := by decide +kernel
theorem dX1_codeAt_1 : decode cX1_codeAt 1 = .ok (.iload_n 1, 1) := by decide +kernel
theorem dX1_codeAt_2 : decode cX1_codeAt 2 = .ok (.invokevirtual 19, 3) := by decide +kernel
theorem dX1_codeAt_5 : decode cX1_codeAt 5 = .ok (.ifCond .eq 12, 3) := by decide +kernel
theorem dX1_codeAt_8 : decode cX1_codeAt 8 = .ok (.aload_n 0, 1) := by decide +kernel
theorem dX1_codeAt_9 : decode cX1_codeAt 9 = .ok (.getfield 9, 3) := by decide +kernel
theorem dX1_codeAt_12 : decode cX1_codeAt 12 = .ok (.iload_n 1, 1) := by decide +kernel
theorem dX1_codeAt_13 : decode cX1_codeAt 13 = .ok (.iaload, 1) := by decide +kernel
theorem dX1_codeAt_14 : decode cX1_codeAt 14 = .ok (.goto 4, 3) := by decide +kernel
theorem dX1_codeAt_17 : decode cX1_codeAt 17 = .ok (.iconst 0, 1) := by decide +kernel
theorem dX1_codeAt_18 : decode cX1_codeAt 18 = .ok (.ireturn, 1) := by decide +kernel
theorem dX1_add_0 : decode cX1_add 0 = .ok (.aload_n 0, 1) := by decide +kernel
theorem dX1_add_1 : decode cX1_add 1 = .ok (.invokevirtual 23, 3) := by decide +kernel
theorem dX1_add_4 : decode cX1_add 4 = .ok (.ifCond .ne 23, 3) := by decide +kernel
theorem dX1_add_7 : decode cX1_add 7 = .ok (.aload_n 0, 1) := by decide +kernel
theorem dX1_add_8 : decode cX1_add 8 = .ok (.getfield 9, 3) := by decide +kernel
theorem dX1_add_11 : decode cX1_add 11 = .ok (.aload_n 0, 1) := by decide +kernel
theorem dX1_add_12 : decode cX1_add 12 = .ok (.getfield 15, 3) := by decide +kernel
theorem dX1_add_15 : decode cX1_add 15 = .ok (.iload_n 1, 1) := by decide +kernel
theorem dX1_add_16 : decode cX1_add 16 = .ok (.iastore, 1) := by decide +kernel
theorem dX1_add_17 : decode cX1_add 17 = .ok (.aload_n 0, 1) := by decide +kernel
theorem dX1_add_18 : decode cX1_add 18 = .ok (.dup, 1) := by decide +kernel
theorem dX1_add_19 : decode cX1_add 19 = .ok (.getfield 15, 3) := by decide +kernel
theorem dX1_add_22 : decode cX1_add 22 = .ok (.iconst 1, 1) := by decide +kernel
theorem dX1_add_23 : decode cX1_add 23 = .ok (.iadd, 1) := by decide +kernel
theorem dX1_add_24 : decode cX1_add 24 = .ok (.putfield 15, 3) := by decide +kernel
theorem dX1_add_27 : decode cX1_add 27 = .ok (.return_, 1) := by decide +kernel
theorem dX1_removeAt_0 : decode cX1_removeAt 0 = .ok (.aload_n 0, 1) := by decide +kernel
theorem dX1_removeAt_1 : decode cX1_removeAt 1 = .ok (.iload_n 1, 1) := by decide +kernel
theorem dX1_removeAt_2 : decode cX1_removeAt 2 = .ok (.invokevirtual 19, 3) := by decide +kernel
theorem dX1_removeAt_5 : decode cX1_removeAt 5 = .ok (.ifCond .eq 45, 3) := by decide +kernel
theorem dX1_removeAt_8 : decode cX1_removeAt 8 = .ok (.iload_n 1, 1) := by decide +kernel
theorem dX1_removeAt_9 : decode cX1_removeAt 9 = .ok (.istore_n 2, 1) := by decide +kernel
theorem dX1_removeAt_10 : decode cX1_removeAt 10 = .ok (.iload_n 2, 1) := by decide +kernel
theorem dX1_removeAt_11 : decode cX1_removeAt 11 = .ok (.aload_n 0, 1) := by decide +kernel
theorem dX1_removeAt_12 : decode cX1_removeAt 12 = .ok (.getfield 15, 3) := by decide +kernel
theorem dX1_removeAt_15 : decode cX1_removeAt 15 = .ok (.iconst 1, 1) := by decide +kernel
theorem dX1_removeAt_16 : decode cX1_removeAt 16 = .ok (.isub, 1) := by decide +kernel
theorem dX1_removeAt_17 : decode cX1_removeAt 17 = .ok (.if_icmp .ge 23, 3) := by decide +kernel
theorem dX1_removeAt_20 : decode cX1_removeAt 20 = .ok (.aload_n 0, 1) := by decide +kernel
theorem dX1_removeAt_21 : decode cX1_removeAt 21 = .ok (.getfield 9, 3) := by decide +kernel
theorem dX1_removeAt_24 : decode cX1_removeAt 24 = .ok (.iload_n 2, 1) := by decide +kernel
theorem dX1_removeAt_25 : decode cX1_removeAt 25 = .ok (.aload_n 0, 1) := by decide +kernel
theorem dX1_removeAt_26 : decode cX1_removeAt 26 = .ok (.getfield 9, 3) := by decide +kernel
theorem dX1_removeAt_29 : decode cX1_removeAt 29 = .ok (.iload_n 2, 1) := by decide +kernel
theorem dX1_removeAt_30 : decode cX1_removeAt 30 = .ok (.iconst 1, 1) := by decide +kernel
theorem dX1_removeAt_31 : decode cX1_removeAt 31 = .ok (.iadd, 1) := by decide +kernel
theorem dX1_removeAt_32 : decode cX1_removeAt 32 = .ok (.iaload, 1) := by decide +kernel
theorem dX1_removeAt_33 : decode cX1_removeAt 33 = .ok (.iastore, 1) := by decide +kernel
theorem dX1_removeAt_34 : decode cX1_removeAt 34 = .ok (.iinc 2 1, 3) := by decide +kernel
theorem dX1_removeAt_37 : decode cX1_removeAt 37 = .ok (.goto (-27), 3) := by decide +kernel
theorem dX1_removeAt_40 : decode cX1_removeAt 40 = .ok (.aload_n 0, 1) := by decide +kernel
theorem dX1_removeAt_41 : decode cX1_removeAt 41 = .ok (.dup, 1) := by decide +kernel
theorem dX1_removeAt_42 : decode cX1_removeAt 42 = .ok (.getfield 15, 3) := by decide +kernel
theorem dX1_removeAt_45 : decode cX1_removeAt 45 = .ok (.iconst 1, 1) := by decide +kernel
theorem dX1_removeAt_46 : decode cX1_removeAt 46 = .ok (.isub, 1) := by decide +kernel
theorem dX1_removeAt_47 : decode cX1_removeAt 47 = .ok (.putfield 15, 3) := by decide +kernel
theorem dX1_removeAt_50 : decode cX1_removeAt 50 = .ok (.return_, 1) := by decide +kernel
theorem dX1_copyFrom_0 : decode cX1_copyFrom 0 = .ok (.iconst 0, 1) := by decide +kernel
theorem dX1_copyFrom_1 : decode cX1_copyFrom 1 = .ok (.istore_n 2, 1) := by decide +kernel
theorem dX1_copyFrom_2 : decode cX1_copyFrom 2 = .ok (.iload_n 2, 1) := by decide +kernel
theorem dX1_copyFrom_3 : decode cX1_copyFrom 3 = .ok (.aload_n 1, 1) := by decide +kernel
theorem dX1_copyFrom_4 : decode cX1_copyFrom 4 = .ok (.getfield 15, 3) := by decide +kernel
theorem dX1_copyFrom_7 : decode cX1_copyFrom 7 = .ok (.if_icmp .ge 21, 3) := by decide +kernel
theorem dX1_copyFrom_10 : decode cX1_copyFrom 10 = .ok (.aload_n 0, 1) := by decide +kernel
theorem dX1_copyFrom_11 : decode cX1_copyFrom 11 = .ok (.getfield 9, 3) := by decide +kernel
theorem dX1_copyFrom_14 : decode cX1_copyFrom 14 = .ok (.iload_n 2, 1) := by decide +kernel
theorem dX1_copyFrom_15 : decode cX1_copyFrom 15 = .ok (.aload_n 1, 1) := by decide +kernel
theorem dX1_copyFrom_16 : decode cX1_copyFrom 16 = .ok (.getfield 9, 3) := by decide +kernel
theorem dX1_copyFrom_19 : decode cX1_copyFrom 19 = .ok (.iload_n 2, 1) := by decide +kernel
theorem dX1_copyFrom_20 : decode cX1_copyFrom 20 = .ok (.iaload, 1) := by decide +kernel
theorem dX1_copyFrom_21 : decode cX1_copyFrom 21 = .ok (.iastore, 1) := by decide +kernel
theorem dX1_copyFrom_22 : decode cX1_copyFrom 22 = .ok (.iinc 2 1, 3) := by decide +kernel
theorem dX1_copyFrom_25 : decode cX1_copyFrom 25 = .ok (.goto (-23), 3) := by decide +kernel
theorem dX1_copyFrom_28 : decode cX1_copyFrom 28 = .ok (.aload_n 0, 1) := by decide +kernel
theorem dX1_copyFrom_29 : decode cX1_copyFrom 29 = .ok (.aload_n 1, 1) := by decide +kernel
theorem dX1_copyFrom_30 : decode cX1_copyFrom 30 = .ok (.getfield 15, 3) := by decide +kernel
theorem dX1_copyFrom_33 : decode cX1_copyFrom 33 = .ok (.putfield 15, 3) := by decide +kernel
theorem dX1_copyFrom_36 : decode cX1_copyFrom 36 = .ok (.return_, 1) := by decide +kernel
theorem dX1_firstViolatedOrUnit_0 : decode cX1_firstViolatedOrUnit 0 = .ok (.iconst 0, 1) := by decide +kernel
theorem dX1_firstViolatedOrUnit_1 : decode cX1_firstViolatedOrUnit 1 = .ok (.istore_n 3, 1) := by decide +kernel
theorem dX1_firstViolatedOrUnit_2 : decode cX1_firstViolatedOrUnit 2 = .ok (.iload_n 3, 1) := by decide +kernel
theorem dX1_firstViolatedOrUnit_3 : decode cX1_firstViolatedOrUnit 3 = .ok (.aload_n 0, 1) := by decide +kernel
theorem dX1_firstViolatedOrUnit_4 : decode cX1_firstViolatedOrUnit 4 = .ok (.getfield 15, 3) := by decide +kernel
theorem dX1_firstViolatedOrUnit_7 : decode cX1_firstViolatedOrUnit 7 = .ok (.if_icmp .ge 64, 3) := by decide +kernel
theorem dX1_firstViolatedOrUnit_10 : decode cX1_firstViolatedOrUnit 10 = .ok (.aload_n 0, 1) := by decide +kernel
theorem dX1_firstViolatedOrUnit_11 : decode cX1_firstViolatedOrUnit 11 = .ok (.getfield 9, 3) := by decide +kernel
theorem dX1_firstViolatedOrUnit_14 : decode cX1_firstViolatedOrUnit 14 = .ok (.iload_n 3, 1) := by decide +kernel
theorem dX1_firstViolatedOrUnit_15 : decode cX1_firstViolatedOrUnit 15 = .ok (.iaload, 1) := by decide +kernel
theorem dX1_firstViolatedOrUnit_16 : decode cX1_firstViolatedOrUnit 16 = .ok (.invokestatic 27, 3) := by decide +kernel
theorem dX1_firstViolatedOrUnit_19 : decode cX1_firstViolatedOrUnit 19 = .ok (.iload_n 1, 1) := by decide +kernel
theorem dX1_firstViolatedOrUnit_20 : decode cX1_firstViolatedOrUnit 20 = .ok (.iconst (-1), 1) := by decide +kernel
theorem dX1_firstViolatedOrUnit_21 : decode cX1_firstViolatedOrUnit 21 = .ok (.ixor, 1) := by decide +kernel
theorem dX1_firstViolatedOrUnit_22 : decode cX1_firstViolatedOrUnit 22 = .ok (.iand, 1) := by decide +kernel
theorem dX1_firstViolatedOrUnit_23 : decode cX1_firstViolatedOrUnit 23 = .ok (.istore 4, 2) := by decide +kernel
theorem dX1_firstViolatedOrUnit_25 : decode cX1_firstViolatedOrUnit 25 = .ok (.iload 4, 2) := by decide +kernel
theorem dX1_firstViolatedOrUnit_27 : decode cX1_firstViolatedOrUnit 27 = .ok (.invokestatic 31, 3) := by decide +kernel
theorem dX1_firstViolatedOrUnit_30 : decode cX1_firstViolatedOrUnit 30 = .ok (.iconst 1, 1) := by decide +kernel
theorem dX1_firstViolatedOrUnit_31 : decode cX1_firstViolatedOrUnit 31 = .ok (.if_icmp .gt 34, 3) := by decide +kernel
theorem dX1_firstViolatedOrUnit_34 : decode cX1_firstViolatedOrUnit 34 = .ok (.aload_n 0, 1) := by decide +kernel
theorem dX1_firstViolatedOrUnit_35 : decode cX1_firstViolatedOrUnit 35 = .ok (.getfield 9, 3) := by decide +kernel
theorem dX1_firstViolatedOrUnit_38 : decode cX1_firstViolatedOrUnit 38 = .ok (.iload_n 3, 1) := by decide +kernel
theorem dX1_firstViolatedOrUnit_39 : decode cX1_firstViolatedOrUnit 39 = .ok (.iaload, 1) := by decide +kernel
theorem dX1_firstViolatedOrUnit_40 : decode cX1_firstViolatedOrUnit 40 = .ok (.iload_n 2, 1) := by decide +kernel
theorem dX1_firstViolatedOrUnit_41 : decode cX1_firstViolatedOrUnit 41 = .ok (.invokestatic 36, 3) := by decide +kernel
theorem dX1_firstViolatedOrUnit_44 : decode cX1_firstViolatedOrUnit 44 = .ok (.ifCond .ne 19, 3) := by decide +kernel
theorem dX1_firstViolatedOrUnit_47 : decode cX1_firstViolatedOrUnit 47 = .ok (.aload_n 0, 1) := by decide +kernel
theorem dX1_firstViolatedOrUnit_48 : decode cX1_firstViolatedOrUnit 48 = .ok (.getfield 9, 3) := by decide +kernel
theorem dX1_firstViolatedOrUnit_51 : decode cX1_firstViolatedOrUnit 51 = .ok (.iload_n 3, 1) := by decide +kernel
theorem dX1_firstViolatedOrUnit_52 : decode cX1_firstViolatedOrUnit 52 = .ok (.iaload, 1) := by decide +kernel
theorem dX1_firstViolatedOrUnit_53 : decode cX1_firstViolatedOrUnit 53 = .ok (.iload_n 2, 1) := by decide +kernel
theorem dX1_firstViolatedOrUnit_54 : decode cX1_firstViolatedOrUnit 54 = .ok (.iload 4, 2) := by decide +kernel
theorem dX1_firstViolatedOrUnit_56 : decode cX1_firstViolatedOrUnit 56 = .ok (.ior, 1) := by decide +kernel
theorem dX1_firstViolatedOrUnit_57 : decode cX1_firstViolatedOrUnit 57 = .ok (.invokestatic 36, 3) := by decide +kernel
theorem dX1_firstViolatedOrUnit_60 : decode cX1_firstViolatedOrUnit 60 = .ok (.ifCond .eq 5, 3) := by decide +kernel
theorem dX1_firstViolatedOrUnit_63 : decode cX1_firstViolatedOrUnit 63 = .ok (.iload_n 3, 1) := by decide +kernel
theorem dX1_firstViolatedOrUnit_64 : decode cX1_firstViolatedOrUnit 64 = .ok (.ireturn, 1) := by decide +kernel
theorem dX1_firstViolatedOrUnit_65 : decode cX1_firstViolatedOrUnit 65 = .ok (.iinc 3 1, 3) := by decide +kernel
theorem dX1_firstViolatedOrUnit_68 : decode cX1_firstViolatedOrUnit 68 = .ok (.goto (-66), 3) := by decide +kernel
theorem dX1_firstViolatedOrUnit_71 : decode cX1_firstViolatedOrUnit 71 = .ok (.bipush (-9), 2) := by decide +kernel
theorem dX1_firstViolatedOrUnit_73 : decode cX1_firstViolatedOrUnit 73 = .ok (.ireturn, 1) := by decide +kernel
theorem dX2_init_0 : decode cX2_init 0 = .ok (.aload_n 0, 1) := by decide +kernel
theorem dX2_init_1 : decode cX2_init 1 = .ok (.invokespecial 3, 3) := by decide +kernel
theorem dX2_init_4 : decode cX2_init 4 = .ok (.aload_n 0, 1) := by decide +kernel
theorem dX2_init_5 : decode cX2_init 5 = .ok (.bipush 90, 2) := by decide +kernel
theorem dX2_init_7 : decode cX2_init 7 = .ok (.newarray .int, 2) := by decide +kernel
theorem dX2_init_9 : decode cX2_init 9 = .ok (.putfield 9, 3) := by decide +kernel
theorem dX2_init_12 : decode cX2_init 12 = .ok (.aload_n 0, 1) := by decide +kernel
theorem dX2_init_13 : decode cX2_init 13 = .ok (.iconst 0, 1) := by decide +kernel
theorem dX2_init_14 : decode cX2_init 14 = .ok (.putfield 15, 3) := by decide +kernel
theorem dX2_init_17 : decode cX2_init 17 = .ok (.aload_n 0, 1) := by decide +kernel
theorem dX2_init_18 : decode cX2_init 18 = .ok (.new 19, 3) := by decide +kernel
theorem dX2_init_21 : decode cX2_init 21 = .ok (.dup, 1) := by decide +kernel
theorem dX2_init_22 : decode cX2_init 22 = .ok (.invokespecial 21, 3) := by decide +kernel
theorem dX2_init_25 : decode cX2_init 25 = .ok (.putfield 22, 3) := by decide +kernel
theorem dX2_init_28 : decode cX2_init 28 = .ok (.aload_n 0, 1) := by decide +kernel
theorem dX2_init_29 : decode cX2_init 29 = .ok (.iconst 0, 1) := by decide +kernel
theorem dX2_init_30 : decode cX2_init 30 = .ok (.putfield 26, 3) := by decide +kernel
theorem dX2_init_33 : decode cX2_init 33 = .ok (.aload_n 0, 1) := by decide +kernel
theorem dX2_init_34 : decode cX2_init 34 = .ok (.iconst 0, 1) := by decide +kernel
theorem dX2_init_35 : decode cX2_init 35 = .ok (.putfield 29, 3) := by decide +kernel
theorem dX2_init_38 : decode cX2_init 38 = .ok (.aload_n 0, 1) := by decide +kernel
theorem dX2_init_39 : decode cX2_init 39 = .ok (.iconst 0, 1) := by decide +kernel
theorem dX2_init_40 : decode cX2_init 40 = .ok (.putfield 32, 3) := by decide +kernel
theorem dX2_init_43 : decode cX2_init 43 = .ok (.return_, 1) := by decide +kernel
theorem dX2_put_0 : decode cX2_put 0 = .ok (.aload_n 0, 1) := by decide +kernel
theorem dX2_put_1 : decode cX2_put 1 = .ok (.getfield 15, 3) := by decide +kernel
theorem dX2_put_4 : decode cX2_put 4 = .ok (.bipush 90, 2) := by decide +kernel
theorem dX2_put_6 : decode cX2_put 6 = .ok (.if_icmp .ge 23, 3) := by decide +kernel
theorem dX2_put_9 : decode cX2_put 9 = .ok (.aload_n 0, 1) := by decide +kernel
theorem dX2_put_10 : decode cX2_put 10 = .ok (.getfield 9, 3) := by decide +kernel
theorem dX2_put_13 : decode cX2_put 13 = .ok (.aload_n 0, 1) := by decide +kernel
theorem dX2_put_14 : decode cX2_put 14 = .ok (.getfield 15, 3) := by decide +kernel
theorem dX2_put_17 : decode cX2_put 17 = .ok (.iload_n 1, 1) := by decide +kernel
theorem dX2_put_18 : decode cX2_put 18 = .ok (.iastore, 1) := by decide +kernel
theorem dX2_put_19 : decode cX2_put 19 = .ok (.aload_n 0, 1) := by decide +kernel
theorem dX2_put_20 : decode cX2_put 20 = .ok (.dup, 1) := by decide +kernel
theorem dX2_put_21 : decode cX2_put 21 = .ok (.getfield 15, 3) := by decide +kernel
theorem dX2_put_24 : decode cX2_put 24 = .ok (.iconst 1, 1) := by decide +kernel
theorem dX2_put_25 : decode cX2_put 25 = .ok (.iadd, 1) := by decide +kernel
theorem dX2_put_26 : decode cX2_put 26 = .ok (.putfield 15, 3) := by decide +kernel
theorem dX2_put_29 : decode cX2_put 29 = .ok (.return_, 1) := by decide +kernel
theorem dX2_read_0 : decode cX2_read 0 = .ok (.aload_n 0, 1) := by decide +kernel
theorem dX2_read_1 : decode cX2_read 1 = .ok (.getfield 22, 3) := by decide +kernel
theorem dX2_read_4 : decode cX2_read 4 = .ok (.iconst 0, 1) := by decide +kernel
theorem dX2_read_5 : decode cX2_read 5 = .ok (.putfield 35, 3) := by decide +kernel
theorem dX2_read_8 : decode cX2_read 8 = .ok (.aload_n 0, 1) := by decide +kernel
theorem dX2_read_9 : decode cX2_read 9 = .ok (.invokevirtual 38, 3) := by decide +kernel
theorem dX2_read_12 : decode cX2_read 12 = .ok (.iconst 0, 1) := by decide +kernel
theorem dX2_read_13 : decode cX2_read 13 = .ok (.istore_n 1, 1) := by decide +kernel
theorem dX2_read_14 : decode cX2_read 14 = .ok (.iload_n 1, 1) := by decide +kernel
theorem dX2_read_15 : decode cX2_read 15 = .ok (.aload_n 0, 1) := by decide +kernel
theorem dX2_read_16 : decode cX2_read 16 = .ok (.getfield 15, 3) := by decide +kernel
theorem dX2_read_19 : decode cX2_read 19 = .ok (.if_icmp .ge 24, 3) := by decide +kernel
theorem dX2_read_22 : decode cX2_read 22 = .ok (.aload_n 0, 1) := by decide +kernel
theorem dX2_read_23 : decode cX2_read 23 = .ok (.aload_n 0, 1) := by decide +kernel
theorem dX2_read_24 : decode cX2_read 24 = .ok (.getfield 9, 3) := by decide +kernel
theorem dX2_read_27 : decode cX2_read 27 = .ok (.iload_n 1, 1) := by decide +kernel
theorem dX2_read_28 : decode cX2_read 28 = .ok (.iaload, 1) := by decide +kernel
theorem dX2_read_29 : decode cX2_read 29 = .ok (.invokevirtual 41, 3) := by decide +kernel
theorem dX2_read_32 : decode cX2_read 32 = .ok (.ifCond .ne 5, 3) := by decide +kernel
theorem dX2_read_35 : decode cX2_read 35 = .ok (.iload_n 1, 1) := by decide +kernel
theorem dX2_read_36 : decode cX2_read 36 = .ok (.ireturn, 1) := by decide +kernel
theorem dX2_read_37 : decode cX2_read 37 = .ok (.iinc 1 1, 3) := by decide +kernel
theorem dX2_read_40 : decode cX2_read 40 = .ok (.goto (-26), 3) := by decide +kernel
theorem dX2_read_43 : decode cX2_read 43 = .ok (.aload_n 0, 1) := by decide +kernel
theorem dX2_read_44 : decode cX2_read 44 = .ok (.getfield 26, 3) := by decide +kernel
theorem dX2_read_47 : decode cX2_read 47 = .ok (.ifCond .ne 8, 3) := by decide +kernel
theorem dX2_read_50 : decode cX2_read 50 = .ok (.bipush (-9), 2) := by decide +kernel
theorem dX2_read_52 : decode cX2_read 52 = .ok (.goto 7, 3) := by decide +kernel
theorem dX2_read_55 : decode cX2_read 55 = .ok (.aload_n 0, 1) := by decide +kernel
theorem dX2_read_56 : decode cX2_read 56 = .ok (.getfield 15, 3) := by decide +kernel
theorem dX2_read_59 : decode cX2_read 59 = .ok (.ireturn, 1) := by decide +kernel
theorem dX2_startItem_0 : decode cX2_startItem 0 = .ok (.aload_n 0, 1) := by decide +kernel
theorem dX2_startItem_1 : decode cX2_startItem 1 = .ok (.iconst 0, 1) := by decide +kernel
theorem dX2_startItem_2 : decode cX2_startItem 2 = .ok (.putfield 26, 3) := by decide +kernel
theorem dX2_startItem_5 : decode cX2_startItem 5 = .ok (.aload_n 0, 1) := by decide +kernel
theorem dX2_startItem_6 : decode cX2_startItem 6 = .ok (.iconst 0, 1) := by decide +kernel
theorem dX2_startItem_7 : decode cX2_startItem 7 = .ok (.putfield 29, 3) := by decide +kernel
theorem dX2_startItem_10 : decode cX2_startItem 10 = .ok (.aload_n 0, 1) := by decide +kernel
theorem dX2_startItem_11 : decode cX2_startItem 11 = .ok (.iconst 0, 1) := by decide +kernel
theorem dX2_startItem_12 : decode cX2_startItem 12 = .ok (.putfield 32, 3) := by decide +kernel
theorem dX2_startItem_15 : decode cX2_startItem 15 = .ok (.return_, 1) := by decide +kernel
theorem dX2_takes_0 : decode cX2_takes 0 = .ok (.aload_n 0, 1) := by decide +kernel
theorem dX2_takes_1 : decode cX2_takes 1 = .ok (.getfield 26, 3) := by decide +kernel
theorem dX2_takes_4 : decode cX2_takes 4 = .ok (.tableswitch 70 0 2 #[28, 34, 64], 28) := by decide +kernel
theorem dX2_takes_32 : decode cX2_takes 32 = .ok (.aload_n 0, 1) := by decide +kernel
theorem dX2_takes_33 : decode cX2_takes 33 = .ok (.iload_n 1, 1) := by decide +kernel
theorem dX2_takes_34 : decode cX2_takes 34 = .ok (.invokevirtual 45, 3) := by decide +kernel
theorem dX2_takes_37 : decode cX2_takes 37 = .ok (.ireturn, 1) := by decide +kernel
theorem dX2_takes_38 : decode cX2_takes 38 = .ok (.iload_n 1, 1) := by decide +kernel
theorem dX2_takes_39 : decode cX2_takes 39 = .ok (.bipush 59, 2) := by decide +kernel
theorem dX2_takes_41 : decode cX2_takes 41 = .ok (.if_icmp .ne 21, 3) := by decide +kernel
theorem dX2_takes_44 : decode cX2_takes 44 = .ok (.aload_n 0, 1) := by decide +kernel
theorem dX2_takes_45 : decode cX2_takes 45 = .ok (.aload_n 0, 1) := by decide +kernel
theorem dX2_takes_46 : decode cX2_takes 46 = .ok (.getfield 29, 3) := by decide +kernel
theorem dX2_takes_49 : decode cX2_takes 49 = .ok (.aload_n 0, 1) := by decide +kernel
theorem dX2_takes_50 : decode cX2_takes 50 = .ok (.getfield 32, 3) := by decide +kernel
theorem dX2_takes_53 : decode cX2_takes 53 = .ok (.invokestatic 48, 3) := by decide +kernel
theorem dX2_takes_56 : decode cX2_takes 56 = .ok (.invokevirtual 52, 3) := by decide +kernel
theorem dX2_takes_59 : decode cX2_takes 59 = .ok (.goto 8, 3) := by decide +kernel
theorem dX2_takes_62 : decode cX2_takes 62 = .ok (.aload_n 0, 1) := by decide +kernel
theorem dX2_takes_63 : decode cX2_takes 63 = .ok (.iload_n 1, 1) := by decide +kernel
theorem dX2_takes_64 : decode cX2_takes 64 = .ok (.invokevirtual 55, 3) := by decide +kernel
theorem dX2_takes_67 : decode cX2_takes 67 = .ok (.ireturn, 1) := by decide +kernel
theorem dX2_takes_68 : decode cX2_takes 68 = .ok (.aload_n 0, 1) := by decide +kernel
theorem dX2_takes_69 : decode cX2_takes 69 = .ok (.iload_n 1, 1) := by decide +kernel
theorem dX2_takes_70 : decode cX2_takes 70 = .ok (.invokevirtual 58, 3) := by decide +kernel
theorem dX2_takes_73 : decode cX2_takes 73 = .ok (.ireturn, 1) := by decide +kernel
theorem dX2_takes_74 : decode cX2_takes 74 = .ok (.aload_n 0, 1) := by decide +kernel
theorem dX2_takes_75 : decode cX2_takes 75 = .ok (.iload_n 1, 1) := by decide +kernel
theorem dX2_takes_76 : decode cX2_takes 76 = .ok (.invokevirtual 61, 3) := by decide +kernel
theorem dX2_takes_79 : decode cX2_takes 79 = .ok (.ireturn, 1) := by decide +kernel
theorem dX2_takesFirst_0 : decode cX2_takesFirst 0 = .ok (.aload_n 0, 1) := by decide +kernel
theorem dX2_takesFirst_1 : decode cX2_takesFirst 1 = .ok (.getfield 22, 3) := by decide +kernel
theorem dX2_takesFirst_4 : decode cX2_takesFirst 4 = .ok (.invokevirtual 64, 3) := by decide +kernel
theorem dX2_takesFirst_7 : decode cX2_takesFirst 7 = .ok (.ifCond .eq 5, 3) := by decide +kernel
theorem dX2_takesFirst_10 : decode cX2_takesFirst 10 = .ok (.iconst 0, 1) := by decide +kernel
theorem dX2_takesFirst_11 : decode cX2_takesFirst 11 = .ok (.ireturn, 1) := by decide +kernel
theorem dX2_takesFirst_12 : decode cX2_takesFirst 12 = .ok (.iload_n 1, 1) := by decide +kernel
theorem dX2_takesFirst_13 : decode cX2_takesFirst 13 = .ok (.bipush 61, 2) := by decide +kernel
theorem dX2_takesFirst_15 : decode cX2_takesFirst 15 = .ok (.if_icmp .ne 10, 3) := by decide +kernel
theorem dX2_takesFirst_18 : decode cX2_takesFirst 18 = .ok (.aload_n 0, 1) := by decide +kernel
theorem dX2_takesFirst_19 : decode cX2_takesFirst 19 = .ok (.iconst 2, 1) := by decide +kernel
theorem dX2_takesFirst_20 : decode cX2_takesFirst 20 = .ok (.putfield 26, 3) := by decide +kernel
theorem dX2_takesFirst_23 : decode cX2_takesFirst 23 = .ok (.iconst 1, 1) := by decide +kernel
theorem dX2_takesFirst_24 : decode cX2_takesFirst 24 = .ok (.ireturn, 1) := by decide +kernel
theorem dX2_takesFirst_25 : decode cX2_takesFirst 25 = .ok (.aload_n 0, 1) := by decide +kernel
theorem dX2_takesFirst_26 : decode cX2_takesFirst 26 = .ok (.iconst 1, 1) := by decide +kernel
theorem dX2_takesFirst_27 : decode cX2_takesFirst 27 = .ok (.putfield 26, 3) := by decide +kernel
theorem dX2_takesFirst_30 : decode cX2_takesFirst 30 = .ok (.aload_n 0, 1) := by decide +kernel
theorem dX2_takesFirst_31 : decode cX2_takesFirst 31 = .ok (.iload_n 1, 1) := by decide +kernel
theorem dX2_takesFirst_32 : decode cX2_takesFirst 32 = .ok (.invokevirtual 55, 3) := by decide +kernel
theorem dX2_takesFirst_35 : decode cX2_takesFirst 35 = .ok (.ireturn, 1) := by decide +kernel
theorem dX2_takesClauseLetter_0 : decode cX2_takesClauseLetter 0 = .ok (.aload_n 0, 1) := by decide +kernel
theorem dX2_takesClauseLetter_1 : decode cX2_takesClauseLetter 1 = .ok (.getfield 29, 3) := by decide +kernel
theorem dX2_takesClauseLetter_4 : decode cX2_takesClauseLetter 4 = .ok (.aload_n 0, 1) := by decide +kernel
theorem dX2_takesClauseLetter_5 : decode cX2_takesClauseLetter 5 = .ok (.getfield 32, 3) := by decide +kernel
theorem dX2_takesClauseLetter_8 : decode cX2_takesClauseLetter 8 = .ok (.ior, 1) := by decide +kernel
theorem dX2_takesClauseLetter_9 : decode cX2_takesClauseLetter 9 = .ok (.istore_n 2, 1) := by decide +kernel
theorem dX2_takesClauseLetter_10 : decode cX2_takesClauseLetter 10 = .ok (.iload_n 1, 1) := by decide +kernel
theorem dX2_takesClauseLetter_11 : decode cX2_takesClauseLetter 11 = .ok (.bipush 97, 2) := by decide +kernel
theorem dX2_takesClauseLetter_13 : decode cX2_takesClauseLetter 13 = .ok (.iload_n 2, 1) := by decide +kernel
theorem dX2_takesClauseLetter_14 : decode cX2_takesClauseLetter 14 = .ok (.invokestatic 68, 3) := by decide +kernel
theorem dX2_takesClauseLetter_17 : decode cX2_takesClauseLetter 17 = .ok (.ifCond .eq 20, 3) := by decide +kernel
theorem dX2_takesClauseLetter_20 : decode cX2_takesClauseLetter 20 = .ok (.aload_n 0, 1) := by decide +kernel
theorem dX2_takesClauseLetter_21 : decode cX2_takesClauseLetter 21 = .ok (.dup, 1) := by decide +kernel
theorem dX2_takesClauseLetter_22 : decode cX2_takesClauseLetter 22 = .ok (.getfield 29, 3) := by decide +kernel
theorem dX2_takesClauseLetter_25 : decode cX2_takesClauseLetter 25 = .ok (.iconst 1, 1) := by decide +kernel
theorem dX2_takesClauseLetter_26 : decode cX2_takesClauseLetter 26 = .ok (.iload_n 1, 1) := by decide +kernel
theorem dX2_takesClauseLetter_27 : decode cX2_takesClauseLetter 27 = .ok (.bipush 97, 2) := by decide +kernel
theorem dX2_takesClauseLetter_29 : decode cX2_takesClauseLetter 29 = .ok (.isub, 1) := by decide +kernel
theorem dX2_takesClauseLetter_30 : decode cX2_takesClauseLetter 30 = .ok (.ishl, 1) := by decide +kernel
theorem dX2_takesClauseLetter_31 : decode cX2_takesClauseLetter 31 = .ok (.ior, 1) := by decide +kernel
theorem dX2_takesClauseLetter_32 : decode cX2_takesClauseLetter 32 = .ok (.putfield 29, 3) := by decide +kernel
theorem dX2_takesClauseLetter_35 : decode cX2_takesClauseLetter 35 = .ok (.iconst 1, 1) := by decide +kernel
theorem dX2_takesClauseLetter_36 : decode cX2_takesClauseLetter 36 = .ok (.ireturn, 1) := by decide +kernel
theorem dX2_takesClauseLetter_37 : decode cX2_takesClauseLetter 37 = .ok (.iload_n 1, 1) := by decide +kernel
theorem dX2_takesClauseLetter_38 : decode cX2_takesClauseLetter 38 = .ok (.bipush 65, 2) := by decide +kernel
theorem dX2_takesClauseLetter_40 : decode cX2_takesClauseLetter 40 = .ok (.iload_n 2, 1) := by decide +kernel
theorem dX2_takesClauseLetter_41 : decode cX2_takesClauseLetter 41 = .ok (.invokestatic 68, 3) := by decide +kernel
theorem dX2_takesClauseLetter_44 : decode cX2_takesClauseLetter 44 = .ok (.ifCond .eq 20, 3) := by decide +kernel
theorem dX2_takesClauseLetter_47 : decode cX2_takesClauseLetter 47 = .ok (.aload_n 0, 1) := by decide +kernel
theorem dX2_takesClauseLetter_48 : decode cX2_takesClauseLetter 48 = .ok (.dup, 1) := by decide +kernel
theorem dX2_takesClauseLetter_49 : decode cX2_takesClauseLetter 49 = .ok (.getfield 32, 3) := by decide +kernel
theorem dX2_takesClauseLetter_52 : decode cX2_takesClauseLetter 52 = .ok (.iconst 1, 1) := by decide +kernel
theorem dX2_takesClauseLetter_53 : decode cX2_takesClauseLetter 53 = .ok (.iload_n 1, 1) := by decide +kernel
theorem dX2_takesClauseLetter_54 : decode cX2_takesClauseLetter 54 = .ok (.bipush 65, 2) := by decide +kernel
theorem dX2_takesClauseLetter_56 : decode cX2_takesClauseLetter 56 = .ok (.isub, 1) := by decide +kernel
theorem dX2_takesClauseLetter_57 : decode cX2_takesClauseLetter 57 = .ok (.ishl, 1) := by decide +kernel
theorem dX2_takesClauseLetter_58 : decode cX2_takesClauseLetter 58 = .ok (.ior, 1) := by decide +kernel
theorem dX2_takesClauseLetter_59 : decode cX2_takesClauseLetter 59 = .ok (.putfield 32, 3) := by decide +kernel
theorem dX2_takesClauseLetter_62 : decode cX2_takesClauseLetter 62 = .ok (.iconst 1, 1) := by decide +kernel
theorem dX2_takesClauseLetter_63 : decode cX2_takesClauseLetter 63 = .ok (.ireturn, 1) := by decide +kernel
theorem dX2_takesClauseLetter_64 : decode cX2_takesClauseLetter 64 = .ok (.iconst 0, 1) := by decide +kernel
theorem dX2_takesClauseLetter_65 : decode cX2_takesClauseLetter 65 = .ok (.ireturn, 1) := by decide +kernel
theorem dX2_takesBit_0 : decode cX2_takesBit 0 = .ok (.iload_n 1, 1) := by decide +kernel
theorem dX2_takesBit_1 : decode cX2_takesBit 1 = .ok (.bipush 48, 2) := by decide +kernel
theorem dX2_takesBit_3 : decode cX2_takesBit 3 = .ok (.if_icmp .eq 11, 3) := by decide +kernel
theorem dX2_takesBit_6 : decode cX2_takesBit 6 = .ok (.iload_n 1, 1) := by decide +kernel
theorem dX2_takesBit_7 : decode cX2_takesBit 7 = .ok (.bipush 49, 2) := by decide +kernel
theorem dX2_takesBit_9 : decode cX2_takesBit 9 = .ok (.if_icmp .eq 5, 3) := by decide +kernel
theorem dX2_takesBit_12 : decode cX2_takesBit 12 = .ok (.iconst 0, 1) := by decide +kernel
theorem dX2_takesBit_13 : decode cX2_takesBit 13 = .ok (.ireturn, 1) := by decide +kernel
theorem dX2_takesBit_14 : decode cX2_takesBit 14 = .ok (.aload_n 0, 1) := by decide +kernel
theorem dX2_takesBit_15 : decode cX2_takesBit 15 = .ok (.iload_n 1, 1) := by decide +kernel
theorem dX2_takesBit_16 : decode cX2_takesBit 16 = .ok (.bipush 48, 2) := by decide +kernel
theorem dX2_takesBit_18 : decode cX2_takesBit 18 = .ok (.isub, 1) := by decide +kernel
theorem dX2_takesBit_19 : decode cX2_takesBit 19 = .ok (.putfield 32, 3) := by decide +kernel
theorem dX2_takesBit_22 : decode cX2_takesBit 22 = .ok (.aload_n 0, 1) := by decide +kernel
theorem dX2_takesBit_23 : decode cX2_takesBit 23 = .ok (.iconst 3, 1) := by decide +kernel
theorem dX2_takesBit_24 : decode cX2_takesBit 24 = .ok (.putfield 26, 3) := by decide +kernel
theorem dX2_takesBit_27 : decode cX2_takesBit 27 = .ok (.iconst 1, 1) := by decide +kernel
theorem dX2_takesBit_28 : decode cX2_takesBit 28 = .ok (.ireturn, 1) := by decide +kernel
theorem dX2_takesInParity_0 : decode cX2_takesInParity 0 = .ok (.iload_n 1, 1) := by decide +kernel
theorem dX2_takesInParity_1 : decode cX2_takesInParity 1 = .ok (.bipush 59, 2) := by decide +kernel
theorem dX2_takesInParity_3 : decode cX2_takesInParity 3 = .ok (.if_icmp .ne 34, 3) := by decide +kernel
theorem dX2_takesInParity_6 : decode cX2_takesInParity 6 = .ok (.aload_n 0, 1) := by decide +kernel
theorem dX2_takesInParity_7 : decode cX2_takesInParity 7 = .ok (.getfield 29, 3) := by decide +kernel
theorem dX2_takesInParity_10 : decode cX2_takesInParity 10 = .ok (.ifCond .eq 25, 3) := by decide +kernel
theorem dX2_takesInParity_13 : decode cX2_takesInParity 13 = .ok (.aload_n 0, 1) := by decide +kernel
theorem dX2_takesInParity_14 : decode cX2_takesInParity 14 = .ok (.aload_n 0, 1) := by decide +kernel
theorem dX2_takesInParity_15 : decode cX2_takesInParity 15 = .ok (.getfield 29, 3) := by decide +kernel
theorem dX2_takesInParity_18 : decode cX2_takesInParity 18 = .ok (.aload_n 0, 1) := by decide +kernel
theorem dX2_takesInParity_19 : decode cX2_takesInParity 19 = .ok (.getfield 32, 3) := by decide +kernel
theorem dX2_takesInParity_22 : decode cX2_takesInParity 22 = .ok (.invokestatic 72, 3) := by decide +kernel
theorem dX2_takesInParity_25 : decode cX2_takesInParity 25 = .ok (.invokevirtual 52, 3) := by decide +kernel
theorem dX2_takesInParity_28 : decode cX2_takesInParity 28 = .ok (.ifCond .eq 7, 3) := by decide +kernel
theorem dX2_takesInParity_31 : decode cX2_takesInParity 31 = .ok (.iconst 1, 1) := by decide +kernel
theorem dX2_takesInParity_32 : decode cX2_takesInParity 32 = .ok (.goto 4, 3) := by decide +kernel
theorem dX2_takesInParity_35 : decode cX2_takesInParity 35 = .ok (.iconst 0, 1) := by decide +kernel
theorem dX2_takesInParity_36 : decode cX2_takesInParity 36 = .ok (.ireturn, 1) := by decide +kernel
theorem dX2_takesInParity_37 : decode cX2_takesInParity 37 = .ok (.iload_n 1, 1) := by decide +kernel
theorem dX2_takesInParity_38 : decode cX2_takesInParity 38 = .ok (.bipush 97, 2) := by decide +kernel
theorem dX2_takesInParity_40 : decode cX2_takesInParity 40 = .ok (.aload_n 0, 1) := by decide +kernel
theorem dX2_takesInParity_41 : decode cX2_takesInParity 41 = .ok (.getfield 29, 3) := by decide +kernel
theorem dX2_takesInParity_44 : decode cX2_takesInParity 44 = .ok (.invokestatic 68, 3) := by decide +kernel
theorem dX2_takesInParity_47 : decode cX2_takesInParity 47 = .ok (.ifCond .ne 5, 3) := by decide +kernel
theorem dX2_takesInParity_50 : decode cX2_takesInParity 50 = .ok (.iconst 0, 1) := by decide +kernel
theorem dX2_takesInParity_51 : decode cX2_takesInParity 51 = .ok (.ireturn, 1) := by decide +kernel
theorem dX2_takesInParity_52 : decode cX2_takesInParity 52 = .ok (.aload_n 0, 1) := by decide +kernel
theorem dX2_takesInParity_53 : decode cX2_takesInParity 53 = .ok (.dup, 1) := by decide +kernel
theorem dX2_takesInParity_54 : decode cX2_takesInParity 54 = .ok (.getfield 29, 3) := by decide +kernel
theorem dX2_takesInParity_57 : decode cX2_takesInParity 57 = .ok (.iconst 1, 1) := by decide +kernel
theorem dX2_takesInParity_58 : decode cX2_takesInParity 58 = .ok (.iload_n 1, 1) := by decide +kernel
theorem dX2_takesInParity_59 : decode cX2_takesInParity 59 = .ok (.bipush 97, 2) := by decide +kernel
theorem dX2_takesInParity_61 : decode cX2_takesInParity 61 = .ok (.isub, 1) := by decide +kernel
theorem dX2_takesInParity_62 : decode cX2_takesInParity 62 = .ok (.ishl, 1) := by decide +kernel
theorem dX2_takesInParity_63 : decode cX2_takesInParity 63 = .ok (.ior, 1) := by decide +kernel
theorem dX2_takesInParity_64 : decode cX2_takesInParity 64 = .ok (.putfield 29, 3) := by decide +kernel
theorem dX2_takesInParity_67 : decode cX2_takesInParity 67 = .ok (.iconst 1, 1) := by decide +kernel
theorem dX2_takesInParity_68 : decode cX2_takesInParity 68 = .ok (.ireturn, 1) := by decide +kernel
theorem dX2_endsItem_0 : decode cX2_endsItem 0 = .ok (.aload_n 0, 1) := by decide +kernel
theorem dX2_endsItem_1 : decode cX2_endsItem 1 = .ok (.getfield 22, 3) := by decide +kernel
theorem dX2_endsItem_4 : decode cX2_endsItem 4 = .ok (.iload_n 1, 1) := by decide +kernel
theorem dX2_endsItem_5 : decode cX2_endsItem 5 = .ok (.invokevirtual 75, 3) := by decide +kernel
theorem dX2_endsItem_8 : decode cX2_endsItem 8 = .ok (.aload_n 0, 1) := by decide +kernel
theorem dX2_endsItem_9 : decode cX2_endsItem 9 = .ok (.invokevirtual 38, 3) := by decide +kernel
theorem dX2_endsItem_12 : decode cX2_endsItem 12 = .ok (.iconst 1, 1) := by decide +kernel
theorem dX2_endsItem_13 : decode cX2_endsItem 13 = .ok (.ireturn, 1) := by decide +kernel
theorem dX2_isNewLetter_0 : decode cX2_isNewLetter 0 = .ok (.iload_n 0, 1) := by decide +kernel
theorem dX2_isNewLetter_1 : decode cX2_isNewLetter 1 = .ok (.iload_n 1, 1) := by decide +kernel
theorem dX2_isNewLetter_2 : decode cX2_isNewLetter 2 = .ok (.isub, 1) := by decide +kernel
theorem dX2_isNewLetter_3 : decode cX2_isNewLetter 3 = .ok (.istore_n 3, 1) := by decide +kernel
theorem dX2_isNewLetter_4 : decode cX2_isNewLetter 4 = .ok (.iload_n 3, 1) := by decide +kernel
theorem dX2_isNewLetter_5 : decode cX2_isNewLetter 5 = .ok (.invokestatic 79, 3) := by decide +kernel
theorem dX2_isNewLetter_8 : decode cX2_isNewLetter 8 = .ok (.ifCond .eq 15, 3) := by decide +kernel
theorem dX2_isNewLetter_11 : decode cX2_isNewLetter 11 = .ok (.iload_n 2, 1) := by decide +kernel
theorem dX2_isNewLetter_12 : decode cX2_isNewLetter 12 = .ok (.iload_n 3, 1) := by decide +kernel
theorem dX2_isNewLetter_13 : decode cX2_isNewLetter 13 = .ok (.invokestatic 82, 3) := by decide +kernel
theorem dX2_isNewLetter_16 : decode cX2_isNewLetter 16 = .ok (.ifCond .ne 7, 3) := by decide +kernel
theorem dX2_isNewLetter_19 : decode cX2_isNewLetter 19 = .ok (.iconst 1, 1) := by decide +kernel
theorem dX2_isNewLetter_20 : decode cX2_isNewLetter 20 = .ok (.goto 4, 3) := by decide +kernel
theorem dX2_isNewLetter_23 : decode cX2_isNewLetter 23 = .ok (.iconst 0, 1) := by decide +kernel
theorem dX2_isNewLetter_24 : decode cX2_isNewLetter 24 = .ok (.ireturn, 1) := by decide +kernel
theorem dX3_init_0 : decode cX3_init 0 = .ok (.aload_n 0, 1) := by decide +kernel
theorem dX3_init_1 : decode cX3_init 1 = .ok (.invokespecial 3, 3) := by decide +kernel
theorem dX3_init_4 : decode cX3_init 4 = .ok (.aload_n 0, 1) := by decide +kernel
theorem dX3_init_5 : decode cX3_init 5 = .ok (.bipush 14, 2) := by decide +kernel
theorem dX3_init_7 : decode cX3_init 7 = .ok (.anewarray 9, 3) := by decide +kernel
theorem dX3_init_10 : decode cX3_init 10 = .ok (.putfield 11, 3) := by decide +kernel
theorem dX3_init_13 : decode cX3_init 13 = .ok (.aload_n 0, 1) := by decide +kernel
theorem dX3_init_14 : decode cX3_init 14 = .ok (.iconst 2, 1) := by decide +kernel
theorem dX3_init_15 : decode cX3_init 15 = .ok (.anewarray 9, 3) := by decide +kernel
theorem dX3_init_18 : decode cX3_init 18 = .ok (.putfield 17, 3) := by decide +kernel
theorem dX3_init_21 : decode cX3_init 21 = .ok (.aload_n 0, 1) := by decide +kernel
theorem dX3_init_22 : decode cX3_init 22 = .ok (.iconst 2, 1) := by decide +kernel
theorem dX3_init_23 : decode cX3_init 23 = .ok (.newarray .boolean, 2) := by decide +kernel
theorem dX3_init_25 : decode cX3_init 25 = .ok (.putfield 20, 3) := by decide +kernel
theorem dX3_init_28 : decode cX3_init 28 = .ok (.aload_n 0, 1) := by decide +kernel
theorem dX3_init_29 : decode cX3_init 29 = .ok (.iconst 0, 1) := by decide +kernel
theorem dX3_init_30 : decode cX3_init 30 = .ok (.putfield 24, 3) := by decide +kernel
theorem dX3_init_33 : decode cX3_init 33 = .ok (.iconst 0, 1) := by decide +kernel
theorem dX3_init_34 : decode cX3_init 34 = .ok (.istore_n 1, 1) := by decide +kernel
theorem dX3_init_35 : decode cX3_init 35 = .ok (.iload_n 1, 1) := by decide +kernel
theorem dX3_init_36 : decode cX3_init 36 = .ok (.bipush 14, 2) := by decide +kernel
theorem dX3_init_38 : decode cX3_init 38 = .ok (.if_icmp .ge 22, 3) := by decide +kernel
theorem dX3_init_41 : decode cX3_init 41 = .ok (.aload_n 0, 1) := by decide +kernel
theorem dX3_init_42 : decode cX3_init 42 = .ok (.getfield 11, 3) := by decide +kernel
theorem dX3_init_45 : decode cX3_init 45 = .ok (.iload_n 1, 1) := by decide +kernel
theorem dX3_init_46 : decode cX3_init 46 = .ok (.new 9, 3) := by decide +kernel
theorem dX3_init_49 : decode cX3_init 49 = .ok (.dup, 1) := by decide +kernel
theorem dX3_init_50 : decode cX3_init 50 = .ok (.invokespecial 28, 3) := by decide +kernel
theorem dX3_init_53 : decode cX3_init 53 = .ok (.aastore, 1) := by decide +kernel
theorem dX3_init_54 : decode cX3_init 54 = .ok (.iinc 1 1, 3) := by decide +kernel
theorem dX3_init_57 : decode cX3_init 57 = .ok (.goto (-22), 3) := by decide +kernel
theorem dX3_init_60 : decode cX3_init 60 = .ok (.iconst 0, 1) := by decide +kernel
theorem dX3_init_61 : decode cX3_init 61 = .ok (.istore_n 1, 1) := by decide +kernel
theorem dX3_init_62 : decode cX3_init 62 = .ok (.iload_n 1, 1) := by decide +kernel
theorem dX3_init_63 : decode cX3_init 63 = .ok (.iconst 2, 1) := by decide +kernel
theorem dX3_init_64 : decode cX3_init 64 = .ok (.if_icmp .ge 22, 3) := by decide +kernel
theorem dX3_init_67 : decode cX3_init 67 = .ok (.aload_n 0, 1) := by decide +kernel
theorem dX3_init_68 : decode cX3_init 68 = .ok (.getfield 17, 3) := by decide +kernel
theorem dX3_init_71 : decode cX3_init 71 = .ok (.iload_n 1, 1) := by decide +kernel
theorem dX3_init_72 : decode cX3_init 72 = .ok (.new 9, 3) := by decide +kernel
theorem dX3_init_75 : decode cX3_init 75 = .ok (.dup, 1) := by decide +kernel
theorem dX3_init_76 : decode cX3_init 76 = .ok (.invokespecial 28, 3) := by decide +kernel
theorem dX3_init_79 : decode cX3_init 79 = .ok (.aastore, 1) := by decide +kernel
theorem dX3_init_80 : decode cX3_init 80 = .ok (.iinc 1 1, 3) := by decide +kernel
theorem dX3_init_83 : decode cX3_init 83 = .ok (.goto (-21), 3) := by decide +kernel
theorem dX3_init_86 : decode cX3_init 86 = .ok (.return_, 1) := by decide +kernel
theorem dX3_remember_0 : decode cX3_remember 0 = .ok (.aload_n 0, 1) := by decide +kernel
theorem dX3_remember_1 : decode cX3_remember 1 = .ok (.getfield 24, 3) := by decide +kernel
theorem dX3_remember_4 : decode cX3_remember 4 = .ok (.bipush 14, 2) := by decide +kernel
theorem dX3_remember_6 : decode cX3_remember 6 = .ok (.if_icmp .lt 7, 3) := by decide +kernel
theorem dX3_remember_9 : decode cX3_remember 9 = .ok (.aload_n 0, 1) := by decide +kernel
theorem dX3_remember_10 : decode cX3_remember 10 = .ok (.invokevirtual 29, 3) := by decide +kernel
theorem dX3_remember_13 : decode cX3_remember 13 = .ok (.aload_n 0, 1) := by decide +kernel
theorem dX3_remember_14 : decode cX3_remember 14 = .ok (.getfield 11, 3) := by decide +kernel
theorem dX3_remember_17 : decode cX3_remember 17 = .ok (.aload_n 0, 1) := by decide +kernel
theorem dX3_remember_18 : decode cX3_remember 18 = .ok (.getfield 24, 3) := by decide +kernel
theorem dX3_remember_21 : decode cX3_remember 21 = .ok (.aaload, 1) := by decide +kernel
theorem dX3_remember_22 : decode cX3_remember 22 = .ok (.aload_n 1, 1) := by decide +kernel
theorem dX3_remember_23 : decode cX3_remember 23 = .ok (.invokestatic 32, 3) := by decide +kernel
theorem dX3_remember_26 : decode cX3_remember 26 = .ok (.aload_n 0, 1) := by decide +kernel
theorem dX3_remember_27 : decode cX3_remember 27 = .ok (.dup, 1) := by decide +kernel
theorem dX3_remember_28 : decode cX3_remember 28 = .ok (.getfield 24, 3) := by decide +kernel
theorem dX3_remember_31 : decode cX3_remember 31 = .ok (.iconst 1, 1) := by decide +kernel
theorem dX3_remember_32 : decode cX3_remember 32 = .ok (.iadd, 1) := by decide +kernel
theorem dX3_remember_33 : decode cX3_remember 33 = .ok (.putfield 24, 3) := by decide +kernel
theorem dX3_remember_36 : decode cX3_remember 36 = .ok (.return_, 1) := by decide +kernel
theorem dX3_forgetOldest_0 : decode cX3_forgetOldest 0 = .ok (.aload_n 0, 1) := by decide +kernel
theorem dX3_forgetOldest_1 : decode cX3_forgetOldest 1 = .ok (.getfield 11, 3) := by decide +kernel
theorem dX3_forgetOldest_4 : decode cX3_forgetOldest 4 = .ok (.iconst 0, 1) := by decide +kernel
theorem dX3_forgetOldest_5 : decode cX3_forgetOldest 5 = .ok (.aaload, 1) := by decide +kernel
theorem dX3_forgetOldest_6 : decode cX3_forgetOldest 6 = .ok (.astore_n 1, 1) := by decide +kernel
theorem dX3_forgetOldest_7 : decode cX3_forgetOldest 7 = .ok (.iconst 0, 1) := by decide +kernel
theorem dX3_forgetOldest_8 : decode cX3_forgetOldest 8 = .ok (.istore_n 2, 1) := by decide +kernel
theorem dX3_forgetOldest_9 : decode cX3_forgetOldest 9 = .ok (.iload_n 2, 1) := by decide +kernel
theorem dX3_forgetOldest_10 : decode cX3_forgetOldest 10 = .ok (.bipush 13, 2) := by decide +kernel
theorem dX3_forgetOldest_12 : decode cX3_forgetOldest 12 = .ok (.if_icmp .ge 23, 3) := by decide +kernel
theorem dX3_forgetOldest_15 : decode cX3_forgetOldest 15 = .ok (.aload_n 0, 1) := by decide +kernel
theorem dX3_forgetOldest_16 : decode cX3_forgetOldest 16 = .ok (.getfield 11, 3) := by decide +kernel
theorem dX3_forgetOldest_19 : decode cX3_forgetOldest 19 = .ok (.iload_n 2, 1) := by decide +kernel
theorem dX3_forgetOldest_20 : decode cX3_forgetOldest 20 = .ok (.aload_n 0, 1) := by decide +kernel
theorem dX3_forgetOldest_21 : decode cX3_forgetOldest 21 = .ok (.getfield 11, 3) := by decide +kernel
theorem dX3_forgetOldest_24 : decode cX3_forgetOldest 24 = .ok (.iload_n 2, 1) := by decide +kernel
theorem dX3_forgetOldest_25 : decode cX3_forgetOldest 25 = .ok (.iconst 1, 1) := by decide +kernel
theorem dX3_forgetOldest_26 : decode cX3_forgetOldest 26 = .ok (.iadd, 1) := by decide +kernel
theorem dX3_forgetOldest_27 : decode cX3_forgetOldest 27 = .ok (.aaload, 1) := by decide +kernel
theorem dX3_forgetOldest_28 : decode cX3_forgetOldest 28 = .ok (.aastore, 1) := by decide +kernel
theorem dX3_forgetOldest_29 : decode cX3_forgetOldest 29 = .ok (.iinc 2 1, 3) := by decide +kernel
theorem dX3_forgetOldest_32 : decode cX3_forgetOldest 32 = .ok (.goto (-23), 3) := by decide +kernel
theorem dX3_forgetOldest_35 : decode cX3_forgetOldest 35 = .ok (.aload_n 0, 1) := by decide +kernel
theorem dX3_forgetOldest_36 : decode cX3_forgetOldest 36 = .ok (.getfield 11, 3) := by decide +kernel
theorem dX3_forgetOldest_39 : decode cX3_forgetOldest 39 = .ok (.bipush 13, 2) := by decide +kernel
theorem dX3_forgetOldest_41 : decode cX3_forgetOldest 41 = .ok (.aload_n 1, 1) := by decide +kernel
theorem dX3_forgetOldest_42 : decode cX3_forgetOldest 42 = .ok (.aastore, 1) := by decide +kernel
theorem dX3_forgetOldest_43 : decode cX3_forgetOldest 43 = .ok (.aload_n 0, 1) := by decide +kernel
theorem dX3_forgetOldest_44 : decode cX3_forgetOldest 44 = .ok (.bipush 13, 2) := by decide +kernel
theorem dX3_forgetOldest_46 : decode cX3_forgetOldest 46 = .ok (.putfield 24, 3) := by decide +kernel
theorem dX3_forgetOldest_49 : decode cX3_forgetOldest 49 = .ok (.return_, 1) := by decide +kernel
theorem dX3_takeBack_0 : decode cX3_takeBack 0 = .ok (.aload_n 0, 1) := by decide +kernel
theorem dX3_takeBack_1 : decode cX3_takeBack 1 = .ok (.getfield 24, 3) := by decide +kernel
theorem dX3_takeBack_4 : decode cX3_takeBack 4 = .ok (.ifCond .le 26, 3) := by decide +kernel
theorem dX3_takeBack_7 : decode cX3_takeBack 7 = .ok (.aload_n 0, 1) := by decide +kernel
theorem dX3_takeBack_8 : decode cX3_takeBack 8 = .ok (.dup, 1) := by decide +kernel
theorem dX3_takeBack_9 : decode cX3_takeBack 9 = .ok (.getfield 24, 3) := by decide +kernel
theorem dX3_takeBack_12 : decode cX3_takeBack 12 = .ok (.iconst 1, 1) := by decide +kernel
theorem dX3_takeBack_13 : decode cX3_takeBack 13 = .ok (.isub, 1) := by decide +kernel
theorem dX3_takeBack_14 : decode cX3_takeBack 14 = .ok (.putfield 24, 3) := by decide +kernel
theorem dX3_takeBack_17 : decode cX3_takeBack 17 = .ok (.aload_n 1, 1) := by decide +kernel
theorem dX3_takeBack_18 : decode cX3_takeBack 18 = .ok (.aload_n 0, 1) := by decide +kernel
theorem dX3_takeBack_19 : decode cX3_takeBack 19 = .ok (.getfield 11, 3) := by decide +kernel
theorem dX3_takeBack_22 : decode cX3_takeBack 22 = .ok (.aload_n 0, 1) := by decide +kernel
theorem dX3_takeBack_23 : decode cX3_takeBack 23 = .ok (.getfield 24, 3) := by decide +kernel
theorem dX3_takeBack_26 : decode cX3_takeBack 26 = .ok (.aaload, 1) := by decide +kernel
theorem dX3_takeBack_27 : decode cX3_takeBack 27 = .ok (.invokestatic 32, 3) := by decide +kernel
theorem dX3_takeBack_30 : decode cX3_takeBack 30 = .ok (.return_, 1) := by decide +kernel
theorem dX3_forgetAll_0 : decode cX3_forgetAll 0 = .ok (.aload_n 0, 1) := by decide +kernel
theorem dX3_forgetAll_1 : decode cX3_forgetAll 1 = .ok (.iconst 0, 1) := by decide +kernel
theorem dX3_forgetAll_2 : decode cX3_forgetAll 2 = .ok (.putfield 24, 3) := by decide +kernel
theorem dX3_forgetAll_5 : decode cX3_forgetAll 5 = .ok (.return_, 1) := by decide +kernel
theorem dX3_isFilled_0 : decode cX3_isFilled 0 = .ok (.iload_n 1, 1) := by decide +kernel
theorem dX3_isFilled_1 : decode cX3_isFilled 1 = .ok (.ifCond .lt 21, 3) := by decide +kernel
theorem dX3_isFilled_4 : decode cX3_isFilled 4 = .ok (.iload_n 1, 1) := by decide +kernel
theorem dX3_isFilled_5 : decode cX3_isFilled 5 = .ok (.iconst 2, 1) := by decide +kernel
theorem dX3_isFilled_6 : decode cX3_isFilled 6 = .ok (.if_icmp .ge 16, 3) := by decide +kernel
theorem dX3_isFilled_9 : decode cX3_isFilled 9 = .ok (.aload_n 0, 1) := by decide +kernel
theorem dX3_isFilled_10 : decode cX3_isFilled 10 = .ok (.getfield 20, 3) := by decide +kernel
theorem dX3_isFilled_13 : decode cX3_isFilled 13 = .ok (.iload_n 1, 1) := by decide +kernel
theorem dX3_isFilled_14 : decode cX3_isFilled 14 = .ok (.baload, 1) := by decide +kernel
theorem dX3_isFilled_15 : decode cX3_isFilled 15 = .ok (.ifCond .eq 7, 3) := by decide +kernel
theorem dX3_isFilled_18 : decode cX3_isFilled 18 = .ok (.iconst 1, 1) := by decide +kernel
theorem dX3_isFilled_19 : decode cX3_isFilled 19 = .ok (.goto 4, 3) := by decide +kernel
theorem dX3_isFilled_22 : decode cX3_isFilled 22 = .ok (.iconst 0, 1) := by decide +kernel
theorem dX3_isFilled_23 : decode cX3_isFilled 23 = .ok (.ireturn, 1) := by decide +kernel
theorem dX3_fillSlot_0 : decode cX3_fillSlot 0 = .ok (.iload_n 1, 1) := by decide +kernel
theorem dX3_fillSlot_1 : decode cX3_fillSlot 1 = .ok (.ifCond .lt 25, 3) := by decide +kernel
theorem dX3_fillSlot_4 : decode cX3_fillSlot 4 = .ok (.iload_n 1, 1) := by decide +kernel
theorem dX3_fillSlot_5 : decode cX3_fillSlot 5 = .ok (.iconst 2, 1) := by decide +kernel
theorem dX3_fillSlot_6 : decode cX3_fillSlot 6 = .ok (.if_icmp .ge 20, 3) := by decide +kernel
theorem dX3_fillSlot_9 : decode cX3_fillSlot 9 = .ok (.aload_n 0, 1) := by decide +kernel
theorem dX3_fillSlot_10 : decode cX3_fillSlot 10 = .ok (.getfield 17, 3) := by decide +kernel
theorem dX3_fillSlot_13 : decode cX3_fillSlot 13 = .ok (.iload_n 1, 1) := by decide +kernel
theorem dX3_fillSlot_14 : decode cX3_fillSlot 14 = .ok (.aaload, 1) := by decide +kernel
theorem dX3_fillSlot_15 : decode cX3_fillSlot 15 = .ok (.aload_n 2, 1) := by decide +kernel
theorem dX3_fillSlot_16 : decode cX3_fillSlot 16 = .ok (.invokestatic 32, 3) := by decide +kernel
theorem dX3_fillSlot_19 : decode cX3_fillSlot 19 = .ok (.aload_n 0, 1) := by decide +kernel
theorem dX3_fillSlot_20 : decode cX3_fillSlot 20 = .ok (.getfield 20, 3) := by decide +kernel
theorem dX3_fillSlot_23 : decode cX3_fillSlot 23 = .ok (.iload_n 1, 1) := by decide +kernel
theorem dX3_fillSlot_24 : decode cX3_fillSlot 24 = .ok (.iconst 1, 1) := by decide +kernel
theorem dX3_fillSlot_25 : decode cX3_fillSlot 25 = .ok (.bastore, 1) := by decide +kernel
theorem dX3_fillSlot_26 : decode cX3_fillSlot 26 = .ok (.return_, 1) := by decide +kernel
theorem dX3_copySlot_0 : decode cX3_copySlot 0 = .ok (.aload_n 0, 1) := by decide +kernel
theorem dX3_copySlot_1 : decode cX3_copySlot 1 = .ok (.iload_n 1, 1) := by decide +kernel
theorem dX3_copySlot_2 : decode cX3_copySlot 2 = .ok (.invokevirtual 36, 3) := by decide +kernel
theorem dX3_copySlot_5 : decode cX3_copySlot 5 = .ok (.ifCond .eq 13, 3) := by decide +kernel
theorem dX3_copySlot_8 : decode cX3_copySlot 8 = .ok (.aload_n 2, 1) := by decide +kernel
theorem dX3_copySlot_9 : decode cX3_copySlot 9 = .ok (.aload_n 0, 1) := by decide +kernel
theorem dX3_copySlot_10 : decode cX3_copySlot 10 = .ok (.getfield 17, 3) := by decide +kernel
theorem dX3_copySlot_13 : decode cX3_copySlot 13 = .ok (.iload_n 1, 1) := by decide +kernel
theorem dX3_copySlot_14 : decode cX3_copySlot 14 = .ok (.aaload, 1) := by decide +kernel
theorem dX3_copySlot_15 : decode cX3_copySlot 15 = .ok (.invokestatic 32, 3) := by decide +kernel
theorem dX3_copySlot_18 : decode cX3_copySlot 18 = .ok (.return_, 1) := by decide +kernel
theorem dX3_emptySlots_0 : decode cX3_emptySlots 0 = .ok (.iconst 0, 1) := by decide +kernel
theorem dX3_emptySlots_1 : decode cX3_emptySlots 1 = .ok (.istore_n 1, 1) := by decide +kernel
theorem dX3_emptySlots_2 : decode cX3_emptySlots 2 = .ok (.iload_n 1, 1) := by decide +kernel
theorem dX3_emptySlots_3 : decode cX3_emptySlots 3 = .ok (.iconst 2, 1) := by decide +kernel
theorem dX3_emptySlots_4 : decode cX3_emptySlots 4 = .ok (.if_icmp .ge 16, 3) := by decide +kernel
theorem dX3_emptySlots_7 : decode cX3_emptySlots 7 = .ok (.aload_n 0, 1) := by decide +kernel
theorem dX3_emptySlots_8 : decode cX3_emptySlots 8 = .ok (.getfield 20, 3) := by decide +kernel
theorem dX3_emptySlots_11 : decode cX3_emptySlots 11 = .ok (.iload_n 1, 1) := by decide +kernel
theorem dX3_emptySlots_12 : decode cX3_emptySlots 12 = .ok (.iconst 0, 1) := by decide +kernel
theorem dX3_emptySlots_13 : decode cX3_emptySlots 13 = .ok (.bastore, 1) := by decide +kernel
theorem dX3_emptySlots_14 : decode cX3_emptySlots 14 = .ok (.iinc 1 1, 3) := by decide +kernel
theorem dX3_emptySlots_17 : decode cX3_emptySlots 17 = .ok (.goto (-15), 3) := by decide +kernel
theorem dX3_emptySlots_20 : decode cX3_emptySlots 20 = .ok (.return_, 1) := by decide +kernel
theorem dX3_copyInto_0 : decode cX3_copyInto 0 = .ok (.aload_n 0, 1) := by decide +kernel
theorem dX3_copyInto_1 : decode cX3_copyInto 1 = .ok (.ifnull 12, 3) := by decide +kernel
theorem dX3_copyInto_4 : decode cX3_copyInto 4 = .ok (.aload_n 1, 1) := by decide +kernel
theorem dX3_copyInto_5 : decode cX3_copyInto 5 = .ok (.ifnull 8, 3) := by decide +kernel
theorem dX3_copyInto_8 : decode cX3_copyInto 8 = .ok (.aload_n 0, 1) := by decide +kernel
theorem dX3_copyInto_9 : decode cX3_copyInto 9 = .ok (.aload_n 1, 1) := by decide +kernel
theorem dX3_copyInto_10 : decode cX3_copyInto 10 = .ok (.invokevirtual 40, 3) := by decide +kernel
theorem dX3_copyInto_13 : decode cX3_copyInto 13 = .ok (.return_, 1) := by decide +kernel
theorem dX4_init_0 : decode cX4_init 0 = .ok (.aload_n 0, 1) := by decide +kernel
theorem dX4_init_1 : decode cX4_init 1 = .ok (.invokespecial 3, 3) := by decide +kernel
theorem dX4_init_4 : decode cX4_init 4 = .ok (.aload_n 0, 1) := by decide +kernel
theorem dX4_init_5 : decode cX4_init 5 = .ok (.sipush 256, 3) := by decide +kernel
theorem dX4_init_8 : decode cX4_init 8 = .ok (.newarray .int, 2) := by decide +kernel
theorem dX4_init_10 : decode cX4_init 10 = .ok (.putfield 9, 3) := by decide +kernel
theorem dX4_init_13 : decode cX4_init 13 = .ok (.aload_n 0, 1) := by decide +kernel
theorem dX4_init_14 : decode cX4_init 14 = .ok (.iconst 1, 1) := by decide +kernel
theorem dX4_init_15 : decode cX4_init 15 = .ok (.putfield 15, 3) := by decide +kernel
theorem dX4_init_18 : decode cX4_init 18 = .ok (.return_, 1) := by decide +kernel
theorem dX4_refresh_0 : decode cX4_refresh 0 = .ok (.aload_n 0, 1) := by decide +kernel
theorem dX4_refresh_1 : decode cX4_refresh 1 = .ok (.getfield 15, 3) := by decide +kernel
theorem dX4_refresh_4 : decode cX4_refresh 4 = .ok (.ifCond .eq 34, 3) := by decide +kernel
theorem dX4_refresh_7 : decode cX4_refresh 7 = .ok (.iconst 0, 1) := by decide +kernel
theorem dX4_refresh_8 : decode cX4_refresh 8 = .ok (.istore_n 2, 1) := by decide +kernel
theorem dX4_refresh_9 : decode cX4_refresh 9 = .ok (.iload_n 2, 1) := by decide +kernel
theorem dX4_refresh_10 : decode cX4_refresh 10 = .ok (.sipush 256, 3) := by decide +kernel
theorem dX4_refresh_13 : decode cX4_refresh 13 = .ok (.if_icmp .ge 20, 3) := by decide +kernel
theorem dX4_refresh_16 : decode cX4_refresh 16 = .ok (.aload_n 0, 1) := by decide +kernel
theorem dX4_refresh_17 : decode cX4_refresh 17 = .ok (.getfield 9, 3) := by decide +kernel
theorem dX4_refresh_20 : decode cX4_refresh 20 = .ok (.iload_n 2, 1) := by decide +kernel
theorem dX4_refresh_21 : decode cX4_refresh 21 = .ok (.aload_n 1, 1) := by decide +kernel
theorem dX4_refresh_22 : decode cX4_refresh 22 = .ok (.iload_n 2, 1) := by decide +kernel
theorem dX4_refresh_23 : decode cX4_refresh 23 = .ok (.invokestatic 19, 3) := by decide +kernel
theorem dX4_refresh_26 : decode cX4_refresh 26 = .ok (.iastore, 1) := by decide +kernel
theorem dX4_refresh_27 : decode cX4_refresh 27 = .ok (.iinc 2 1, 3) := by decide +kernel
theorem dX4_refresh_30 : decode cX4_refresh 30 = .ok (.goto (-21), 3) := by decide +kernel
theorem dX4_refresh_33 : decode cX4_refresh 33 = .ok (.aload_n 0, 1) := by decide +kernel
theorem dX4_refresh_34 : decode cX4_refresh 34 = .ok (.iconst 0, 1) := by decide +kernel
theorem dX4_refresh_35 : decode cX4_refresh 35 = .ok (.putfield 15, 3) := by decide +kernel
theorem dX4_refresh_38 : decode cX4_refresh 38 = .ok (.return_, 1) := by decide +kernel
theorem dX4_violatedBy_0 : decode cX4_violatedBy 0 = .ok (.iconst 0, 1) := by decide +kernel
theorem dX4_violatedBy_1 : decode cX4_violatedBy 1 = .ok (.istore_n 2, 1) := by decide +kernel
theorem dX4_violatedBy_2 : decode cX4_violatedBy 2 = .ok (.iconst 0, 1) := by decide +kernel
theorem dX4_violatedBy_3 : decode cX4_violatedBy 3 = .ok (.istore_n 3, 1) := by decide +kernel
theorem dX4_violatedBy_4 : decode cX4_violatedBy 4 = .ok (.iload_n 3, 1) := by decide +kernel
theorem dX4_violatedBy_5 : decode cX4_violatedBy 5 = .ok (.aload_n 0, 1) := by decide +kernel
theorem dX4_violatedBy_6 : decode cX4_violatedBy 6 = .ok (.getfield 23, 3) := by decide +kernel
theorem dX4_violatedBy_9 : decode cX4_violatedBy 9 = .ok (.if_icmp .ge 27, 3) := by decide +kernel
theorem dX4_violatedBy_12 : decode cX4_violatedBy 12 = .ok (.aload_n 0, 1) := by decide +kernel
theorem dX4_violatedBy_13 : decode cX4_violatedBy 13 = .ok (.iload_n 3, 1) := by decide +kernel
theorem dX4_violatedBy_14 : decode cX4_violatedBy 14 = .ok (.invokevirtual 29, 3) := by decide +kernel
theorem dX4_violatedBy_17 : decode cX4_violatedBy 17 = .ok (.iload_n 1, 1) := by decide +kernel
theorem dX4_violatedBy_18 : decode cX4_violatedBy 18 = .ok (.invokestatic 33, 3) := by decide +kernel
theorem dX4_violatedBy_21 : decode cX4_violatedBy 21 = .ok (.ifCond .eq 9, 3) := by decide +kernel
theorem dX4_violatedBy_24 : decode cX4_violatedBy 24 = .ok (.iload_n 2, 1) := by decide +kernel
theorem dX4_violatedBy_25 : decode cX4_violatedBy 25 = .ok (.iconst 1, 1) := by decide +kernel
theorem dX4_violatedBy_26 : decode cX4_violatedBy 26 = .ok (.iload_n 3, 1) := by decide +kernel
theorem dX4_violatedBy_27 : decode cX4_violatedBy 27 = .ok (.ishl, 1) := by decide +kernel
theorem dX4_violatedBy_28 : decode cX4_violatedBy 28 = .ok (.ior, 1) := by decide +kernel
theorem dX4_violatedBy_29 : decode cX4_violatedBy 29 = .ok (.istore_n 2, 1) := by decide +kernel
theorem dX4_violatedBy_30 : decode cX4_violatedBy 30 = .ok (.iinc 3 1, 3) := by decide +kernel
theorem dX4_violatedBy_33 : decode cX4_violatedBy 33 = .ok (.goto (-29), 3) := by decide +kernel
theorem dX4_violatedBy_36 : decode cX4_violatedBy 36 = .ok (.iload_n 2, 1) := by decide +kernel
theorem dX4_violatedBy_37 : decode cX4_violatedBy 37 = .ok (.ireturn, 1) := by decide +kernel
theorem dX4_countModels_0 : decode cX4_countModels 0 = .ok (.iconst 0, 1) := by decide +kernel
theorem dX4_countModels_1 : decode cX4_countModels 1 = .ok (.istore_n 1, 1) := by decide +kernel
theorem dX4_countModels_2 : decode cX4_countModels 2 = .ok (.iconst 0, 1) := by decide +kernel
theorem dX4_countModels_3 : decode cX4_countModels 3 = .ok (.istore_n 2, 1) := by decide +kernel
theorem dX4_countModels_4 : decode cX4_countModels 4 = .ok (.iload_n 2, 1) := by decide +kernel
theorem dX4_countModels_5 : decode cX4_countModels 5 = .ok (.sipush 256, 3) := by decide +kernel
theorem dX4_countModels_8 : decode cX4_countModels 8 = .ok (.if_icmp .ge 21, 3) := by decide +kernel
theorem dX4_countModels_11 : decode cX4_countModels 11 = .ok (.aload_n 0, 1) := by decide +kernel
theorem dX4_countModels_12 : decode cX4_countModels 12 = .ok (.getfield 9, 3) := by decide +kernel
theorem dX4_countModels_15 : decode cX4_countModels 15 = .ok (.iload_n 2, 1) := by decide +kernel
theorem dX4_countModels_16 : decode cX4_countModels 16 = .ok (.iaload, 1) := by decide +kernel
theorem dX4_countModels_17 : decode cX4_countModels 17 = .ok (.ifCond .ne 6, 3) := by decide +kernel
theorem dX4_countModels_20 : decode cX4_countModels 20 = .ok (.iinc 1 1, 3) := by decide +kernel
theorem dX4_countModels_23 : decode cX4_countModels 23 = .ok (.iinc 2 1, 3) := by decide +kernel
theorem dX4_countModels_26 : decode cX4_countModels 26 = .ok (.goto (-22), 3) := by decide +kernel
theorem dX4_countModels_29 : decode cX4_countModels 29 = .ok (.iload_n 1, 1) := by decide +kernel
theorem dX4_countModels_30 : decode cX4_countModels 30 = .ok (.ireturn, 1) := by decide +kernel
theorem dX4_modelAt_0 : decode cX4_modelAt 0 = .ok (.iconst 0, 1) := by decide +kernel
theorem dX4_modelAt_1 : decode cX4_modelAt 1 = .ok (.istore_n 2, 1) := by decide +kernel
theorem dX4_modelAt_2 : decode cX4_modelAt 2 = .ok (.iconst 0, 1) := by decide +kernel
theorem dX4_modelAt_3 : decode cX4_modelAt 3 = .ok (.istore_n 3, 1) := by decide +kernel
theorem dX4_modelAt_4 : decode cX4_modelAt 4 = .ok (.iload_n 3, 1) := by decide +kernel
theorem dX4_modelAt_5 : decode cX4_modelAt 5 = .ok (.sipush 256, 3) := by decide +kernel
theorem dX4_modelAt_8 : decode cX4_modelAt 8 = .ok (.if_icmp .ge 28, 3) := by decide +kernel
theorem dX4_modelAt_11 : decode cX4_modelAt 11 = .ok (.aload_n 0, 1) := by decide +kernel
theorem dX4_modelAt_12 : decode cX4_modelAt 12 = .ok (.getfield 9, 3) := by decide +kernel
theorem dX4_modelAt_15 : decode cX4_modelAt 15 = .ok (.iload_n 3, 1) := by decide +kernel
theorem dX4_modelAt_16 : decode cX4_modelAt 16 = .ok (.iaload, 1) := by decide +kernel
theorem dX4_modelAt_17 : decode cX4_modelAt 17 = .ok (.ifCond .ne 13, 3) := by decide +kernel
theorem dX4_modelAt_20 : decode cX4_modelAt 20 = .ok (.iload_n 2, 1) := by decide +kernel
theorem dX4_modelAt_21 : decode cX4_modelAt 21 = .ok (.iload_n 1, 1) := by decide +kernel
theorem dX4_modelAt_22 : decode cX4_modelAt 22 = .ok (.if_icmp .ne 5, 3) := by decide +kernel
theorem dX4_modelAt_25 : decode cX4_modelAt 25 = .ok (.iload_n 3, 1) := by decide +kernel
theorem dX4_modelAt_26 : decode cX4_modelAt 26 = .ok (.ireturn, 1) := by decide +kernel
theorem dX4_modelAt_27 : decode cX4_modelAt 27 = .ok (.iinc 2 1, 3) := by decide +kernel
theorem dX4_modelAt_30 : decode cX4_modelAt 30 = .ok (.iinc 3 1, 3) := by decide +kernel
theorem dX4_modelAt_33 : decode cX4_modelAt 33 = .ok (.goto (-29), 3) := by decide +kernel
theorem dX4_modelAt_36 : decode cX4_modelAt 36 = .ok (.bipush (-9), 2) := by decide +kernel
theorem dX4_modelAt_38 : decode cX4_modelAt 38 = .ok (.ireturn, 1) := by decide +kernel
theorem dX4_allSatisfy_0 : decode cX4_allSatisfy 0 = .ok (.iconst 0, 1) := by decide +kernel
theorem dX4_allSatisfy_1 : decode cX4_allSatisfy 1 = .ok (.istore_n 2, 1) := by decide +kernel
theorem dX4_allSatisfy_2 : decode cX4_allSatisfy 2 = .ok (.iload_n 2, 1) := by decide +kernel
theorem dX4_allSatisfy_3 : decode cX4_allSatisfy 3 = .ok (.sipush 256, 3) := by decide +kernel
theorem dX4_allSatisfy_6 : decode cX4_allSatisfy 6 = .ok (.if_icmp .ge 28, 3) := by decide +kernel
theorem dX4_allSatisfy_9 : decode cX4_allSatisfy 9 = .ok (.aload_n 0, 1) := by decide +kernel
theorem dX4_allSatisfy_10 : decode cX4_allSatisfy 10 = .ok (.getfield 9, 3) := by decide +kernel
theorem dX4_allSatisfy_13 : decode cX4_allSatisfy 13 = .ok (.iload_n 2, 1) := by decide +kernel
theorem dX4_allSatisfy_14 : decode cX4_allSatisfy 14 = .ok (.iaload, 1) := by decide +kernel
theorem dX4_allSatisfy_15 : decode cX4_allSatisfy 15 = .ok (.ifCond .ne 13, 3) := by decide +kernel
theorem dX4_allSatisfy_18 : decode cX4_allSatisfy 18 = .ok (.iload_n 1, 1) := by decide +kernel
theorem dX4_allSatisfy_19 : decode cX4_allSatisfy 19 = .ok (.iload_n 2, 1) := by decide +kernel
theorem dX4_allSatisfy_20 : decode cX4_allSatisfy 20 = .ok (.invokestatic 33, 3) := by decide +kernel
theorem dX4_allSatisfy_23 : decode cX4_allSatisfy 23 = .ok (.ifCond .eq 5, 3) := by decide +kernel
theorem dX4_allSatisfy_26 : decode cX4_allSatisfy 26 = .ok (.iconst 0, 1) := by decide +kernel
theorem dX4_allSatisfy_27 : decode cX4_allSatisfy 27 = .ok (.ireturn, 1) := by decide +kernel
theorem dX4_allSatisfy_28 : decode cX4_allSatisfy 28 = .ok (.iinc 2 1, 3) := by decide +kernel
theorem dX4_allSatisfy_31 : decode cX4_allSatisfy 31 = .ok (.goto (-29), 3) := by decide +kernel
theorem dX4_allSatisfy_34 : decode cX4_allSatisfy 34 = .ok (.iconst 1, 1) := by decide +kernel
theorem dX4_allSatisfy_35 : decode cX4_allSatisfy 35 = .ok (.ireturn, 1) := by decide +kernel
theorem dX4_canSatisfy_0 : decode cX4_canSatisfy 0 = .ok (.iconst 0, 1) := by decide +kernel
theorem dX4_canSatisfy_1 : decode cX4_canSatisfy 1 = .ok (.istore_n 2, 1) := by decide +kernel
theorem dX4_canSatisfy_2 : decode cX4_canSatisfy 2 = .ok (.iload_n 2, 1) := by decide +kernel
theorem dX4_canSatisfy_3 : decode cX4_canSatisfy 3 = .ok (.sipush 256, 3) := by decide +kernel
theorem dX4_canSatisfy_6 : decode cX4_canSatisfy 6 = .ok (.if_icmp .ge 22, 3) := by decide +kernel
theorem dX4_canSatisfy_9 : decode cX4_canSatisfy 9 = .ok (.aload_n 0, 1) := by decide +kernel
theorem dX4_canSatisfy_10 : decode cX4_canSatisfy 10 = .ok (.getfield 9, 3) := by decide +kernel
theorem dX4_canSatisfy_13 : decode cX4_canSatisfy 13 = .ok (.iload_n 2, 1) := by decide +kernel
theorem dX4_canSatisfy_14 : decode cX4_canSatisfy 14 = .ok (.iaload, 1) := by decide +kernel
theorem dX4_canSatisfy_15 : decode cX4_canSatisfy 15 = .ok (.iload_n 1, 1) := by decide +kernel
theorem dX4_canSatisfy_16 : decode cX4_canSatisfy 16 = .ok (.iand, 1) := by decide +kernel
theorem dX4_canSatisfy_17 : decode cX4_canSatisfy 17 = .ok (.ifCond .ne 5, 3) := by decide +kernel
theorem dX4_canSatisfy_20 : decode cX4_canSatisfy 20 = .ok (.iconst 1, 1) := by decide +kernel
theorem dX4_canSatisfy_21 : decode cX4_canSatisfy 21 = .ok (.ireturn, 1) := by decide +kernel
theorem dX4_canSatisfy_22 : decode cX4_canSatisfy 22 = .ok (.iinc 2 1, 3) := by decide +kernel
theorem dX4_canSatisfy_25 : decode cX4_canSatisfy 25 = .ok (.goto (-23), 3) := by decide +kernel
theorem dX4_canSatisfy_28 : decode cX4_canSatisfy 28 = .ok (.iconst 0, 1) := by decide +kernel
theorem dX4_canSatisfy_29 : decode cX4_canSatisfy 29 = .ok (.ireturn, 1) := by decide +kernel
theorem dX5_init_0 : decode cX5_init 0 = .ok (.aload_n 0, 1) := by decide +kernel
theorem dX5_init_1 : decode cX5_init 1 = .ok (.invokespecial 3, 3) := by decide +kernel
theorem dX5_init_4 : decode cX5_init 4 = .ok (.aload_n 0, 1) := by decide +kernel
theorem dX5_init_5 : decode cX5_init 5 = .ok (.new 9, 3) := by decide +kernel
theorem dX5_init_8 : decode cX5_init 8 = .ok (.dup, 1) := by decide +kernel
theorem dX5_init_9 : decode cX5_init 9 = .ok (.invokespecial 11, 3) := by decide +kernel
theorem dX5_init_12 : decode cX5_init 12 = .ok (.putfield 12, 3) := by decide +kernel
theorem dX5_init_15 : decode cX5_init 15 = .ok (.aload_n 0, 1) := by decide +kernel
theorem dX5_init_16 : decode cX5_init 16 = .ok (.bipush 8, 2) := by decide +kernel
theorem dX5_init_18 : decode cX5_init 18 = .ok (.newarray .int, 2) := by decide +kernel
theorem dX5_init_20 : decode cX5_init 20 = .ok (.putfield 18, 3) := by decide +kernel
theorem dX5_init_23 : decode cX5_init 23 = .ok (.aload_n 0, 1) := by decide +kernel
theorem dX5_init_24 : decode cX5_init 24 = .ok (.iconst 0, 1) := by decide +kernel
theorem dX5_init_25 : decode cX5_init 25 = .ok (.putfield 22, 3) := by decide +kernel
theorem dX5_init_28 : decode cX5_init 28 = .ok (.return_, 1) := by decide +kernel
theorem dX5_decisionAt_0 : decode cX5_decisionAt 0 = .ok (.iload_n 1, 1) := by decide +kernel
theorem dX5_decisionAt_1 : decode cX5_decisionAt 1 = .ok (.ifCond .lt 20, 3) := by decide +kernel
theorem dX5_decisionAt_4 : decode cX5_decisionAt 4 = .ok (.iload_n 1, 1) := by decide +kernel
theorem dX5_decisionAt_5 : decode cX5_decisionAt 5 = .ok (.aload_n 0, 1) := by decide +kernel
theorem dX5_decisionAt_6 : decode cX5_decisionAt 6 = .ok (.getfield 22, 3) := by decide +kernel
theorem dX5_decisionAt_9 : decode cX5_decisionAt 9 = .ok (.if_icmp .ge 12, 3) := by decide +kernel
theorem dX5_decisionAt_12 : decode cX5_decisionAt 12 = .ok (.aload_n 0, 1) := by decide +kernel
theorem dX5_decisionAt_13 : decode cX5_decisionAt 13 = .ok (.getfield 18, 3) := by decide +kernel
theorem dX5_decisionAt_16 : decode cX5_decisionAt 16 = .ok (.iload_n 1, 1) := by decide +kernel
theorem dX5_decisionAt_17 : decode cX5_decisionAt 17 = .ok (.iaload, 1) := by decide +kernel
theorem dX5_decisionAt_18 : decode cX5_decisionAt 18 = .ok (.goto 4, 3) := by decide +kernel
theorem dX5_decisionAt_21 : decode cX5_decisionAt 21 = .ok (.iconst 0, 1) := by decide +kernel
theorem dX5_decisionAt_22 : decode cX5_decisionAt 22 = .ok (.ireturn, 1) := by decide +kernel
theorem dX5_addDecision_0 : decode cX5_addDecision 0 = .ok (.aload_n 0, 1) := by decide +kernel
theorem dX5_addDecision_1 : decode cX5_addDecision 1 = .ok (.getfield 22, 3) := by decide +kernel
theorem dX5_addDecision_4 : decode cX5_addDecision 4 = .ok (.bipush 8, 2) := by decide +kernel
theorem dX5_addDecision_6 : decode cX5_addDecision 6 = .ok (.if_icmp .ge 23, 3) := by decide +kernel
theorem dX5_addDecision_9 : decode cX5_addDecision 9 = .ok (.aload_n 0, 1) := by decide +kernel
theorem dX5_addDecision_10 : decode cX5_addDecision 10 = .ok (.getfield 18, 3) := by decide +kernel
theorem dX5_addDecision_13 : decode cX5_addDecision 13 = .ok (.aload_n 0, 1) := by decide +kernel
theorem dX5_addDecision_14 : decode cX5_addDecision 14 = .ok (.getfield 22, 3) := by decide +kernel
theorem dX5_addDecision_17 : decode cX5_addDecision 17 = .ok (.iload_n 1, 1) := by decide +kernel
theorem dX5_addDecision_18 : decode cX5_addDecision 18 = .ok (.iastore, 1) := by decide +kernel
theorem dX5_addDecision_19 : decode cX5_addDecision 19 = .ok (.aload_n 0, 1) := by decide +kernel
theorem dX5_addDecision_20 : decode cX5_addDecision 20 = .ok (.dup, 1) := by decide +kernel
theorem dX5_addDecision_21 : decode cX5_addDecision 21 = .ok (.getfield 22, 3) := by decide +kernel
theorem dX5_addDecision_24 : decode cX5_addDecision 24 = .ok (.iconst 1, 1) := by decide +kernel
theorem dX5_addDecision_25 : decode cX5_addDecision 25 = .ok (.iadd, 1) := by decide +kernel
theorem dX5_addDecision_26 : decode cX5_addDecision 26 = .ok (.putfield 22, 3) := by decide +kernel
theorem dX5_addDecision_29 : decode cX5_addDecision 29 = .ok (.return_, 1) := by decide +kernel
theorem dX5_keepDecisions_0 : decode cX5_keepDecisions 0 = .ok (.aload_n 0, 1) := by decide +kernel
theorem dX5_keepDecisions_1 : decode cX5_keepDecisions 1 = .ok (.iconst 0, 1) := by decide +kernel
theorem dX5_keepDecisions_2 : decode cX5_keepDecisions 2 = .ok (.iload_n 1, 1) := by decide +kernel
theorem dX5_keepDecisions_3 : decode cX5_keepDecisions 3 = .ok (.aload_n 0, 1) := by decide +kernel
theorem dX5_keepDecisions_4 : decode cX5_keepDecisions 4 = .ok (.getfield 22, 3) := by decide +kernel
theorem dX5_keepDecisions_7 : decode cX5_keepDecisions 7 = .ok (.invokestatic 26, 3) := by decide +kernel
theorem dX5_keepDecisions_10 : decode cX5_keepDecisions 10 = .ok (.invokestatic 32, 3) := by decide +kernel
theorem dX5_keepDecisions_13 : decode cX5_keepDecisions 13 = .ok (.putfield 22, 3) := by decide +kernel
theorem dX5_keepDecisions_16 : decode cX5_keepDecisions 16 = .ok (.return_, 1) := by decide +kernel
theorem dX5_copyFrom_0 : decode cX5_copyFrom 0 = .ok (.aload_n 0, 1) := by decide +kernel
theorem dX5_copyFrom_1 : decode cX5_copyFrom 1 = .ok (.getfield 12, 3) := by decide +kernel
theorem dX5_copyFrom_4 : decode cX5_copyFrom 4 = .ok (.aload_n 1, 1) := by decide +kernel
theorem dX5_copyFrom_5 : decode cX5_copyFrom 5 = .ok (.getfield 12, 3) := by decide +kernel
theorem dX5_copyFrom_8 : decode cX5_copyFrom 8 = .ok (.invokevirtual 35, 3) := by decide +kernel
theorem dX5_copyFrom_11 : decode cX5_copyFrom 11 = .ok (.iconst 0, 1) := by decide +kernel
theorem dX5_copyFrom_12 : decode cX5_copyFrom 12 = .ok (.istore_n 2, 1) := by decide +kernel
theorem dX5_copyFrom_13 : decode cX5_copyFrom 13 = .ok (.iload_n 2, 1) := by decide +kernel
theorem dX5_copyFrom_14 : decode cX5_copyFrom 14 = .ok (.aload_n 1, 1) := by decide +kernel
theorem dX5_copyFrom_15 : decode cX5_copyFrom 15 = .ok (.getfield 22, 3) := by decide +kernel
theorem dX5_copyFrom_18 : decode cX5_copyFrom 18 = .ok (.if_icmp .ge 21, 3) := by decide +kernel
theorem dX5_copyFrom_21 : decode cX5_copyFrom 21 = .ok (.aload_n 0, 1) := by decide +kernel
theorem dX5_copyFrom_22 : decode cX5_copyFrom 22 = .ok (.getfield 18, 3) := by decide +kernel
theorem dX5_copyFrom_25 : decode cX5_copyFrom 25 = .ok (.iload_n 2, 1) := by decide +kernel
theorem dX5_copyFrom_26 : decode cX5_copyFrom 26 = .ok (.aload_n 1, 1) := by decide +kernel
theorem dX5_copyFrom_27 : decode cX5_copyFrom 27 = .ok (.getfield 18, 3) := by decide +kernel
theorem dX5_copyFrom_30 : decode cX5_copyFrom 30 = .ok (.iload_n 2, 1) := by decide +kernel
theorem dX5_copyFrom_31 : decode cX5_copyFrom 31 = .ok (.iaload, 1) := by decide +kernel
theorem dX5_copyFrom_32 : decode cX5_copyFrom 32 = .ok (.iastore, 1) := by decide +kernel
theorem dX5_copyFrom_33 : decode cX5_copyFrom 33 = .ok (.iinc 2 1, 3) := by decide +kernel
theorem dX5_copyFrom_36 : decode cX5_copyFrom 36 = .ok (.goto (-23), 3) := by decide +kernel
theorem dX5_copyFrom_39 : decode cX5_copyFrom 39 = .ok (.aload_n 0, 1) := by decide +kernel
theorem dX5_copyFrom_40 : decode cX5_copyFrom 40 = .ok (.aload_n 1, 1) := by decide +kernel
theorem dX5_copyFrom_41 : decode cX5_copyFrom 41 = .ok (.getfield 22, 3) := by decide +kernel
theorem dX5_copyFrom_44 : decode cX5_copyFrom 44 = .ok (.putfield 22, 3) := by decide +kernel
theorem dX5_copyFrom_47 : decode cX5_copyFrom 47 = .ok (.return_, 1) := by decide +kernel
theorem dX6_init_0 : decode cX6_init 0 = .ok (.aload_n 0, 1) := by decide +kernel
theorem dX6_init_1 : decode cX6_init 1 = .ok (.invokespecial 3, 3) := by decide +kernel
theorem dX6_init_4 : decode cX6_init 4 = .ok (.aload_n 0, 1) := by decide +kernel
theorem dX6_init_5 : decode cX6_init 5 = .ok (.bipush 8, 2) := by decide +kernel
theorem dX6_init_7 : decode cX6_init 7 = .ok (.newarray .int, 2) := by decide +kernel
theorem dX6_init_9 : decode cX6_init 9 = .ok (.putfield 9, 3) := by decide +kernel
theorem dX6_init_12 : decode cX6_init 12 = .ok (.aload_n 0, 1) := by decide +kernel
theorem dX6_init_13 : decode cX6_init 13 = .ok (.bipush 8, 2) := by decide +kernel
theorem dX6_init_15 : decode cX6_init 15 = .ok (.newarray .int, 2) := by decide +kernel
theorem dX6_init_17 : decode cX6_init 17 = .ok (.putfield 15, 3) := by decide +kernel
theorem dX6_init_20 : decode cX6_init 20 = .ok (.aload_n 0, 1) := by decide +kernel
theorem dX6_init_21 : decode cX6_init 21 = .ok (.bipush 8, 2) := by decide +kernel
theorem dX6_init_23 : decode cX6_init 23 = .ok (.newarray .int, 2) := by decide +kernel
theorem dX6_init_25 : decode cX6_init 25 = .ok (.putfield 18, 3) := by decide +kernel
theorem dX6_init_28 : decode cX6_init 28 = .ok (.aload_n 0, 1) := by decide +kernel
theorem dX6_init_29 : decode cX6_init 29 = .ok (.iconst 0, 1) := by decide +kernel
theorem dX6_init_30 : decode cX6_init 30 = .ok (.putfield 21, 3) := by decide +kernel
theorem dX6_init_33 : decode cX6_init 33 = .ok (.aload_n 0, 1) := by decide +kernel
theorem dX6_init_34 : decode cX6_init 34 = .ok (.iconst 0, 1) := by decide +kernel
theorem dX6_init_35 : decode cX6_init 35 = .ok (.putfield 25, 3) := by decide +kernel
theorem dX6_init_38 : decode cX6_init 38 = .ok (.aload_n 0, 1) := by decide +kernel
theorem dX6_init_39 : decode cX6_init 39 = .ok (.iconst 0, 1) := by decide +kernel
theorem dX6_init_40 : decode cX6_init 40 = .ok (.putfield 28, 3) := by decide +kernel
theorem dX6_init_43 : decode cX6_init 43 = .ok (.aload_n 0, 1) := by decide +kernel
theorem dX6_init_44 : decode cX6_init 44 = .ok (.iconst 0, 1) := by decide +kernel
theorem dX6_init_45 : decode cX6_init 45 = .ok (.putfield 31, 3) := by decide +kernel
theorem dX6_init_48 : decode cX6_init 48 = .ok (.aload_n 0, 1) := by decide +kernel
theorem dX6_init_49 : decode cX6_init 49 = .ok (.iconst 0, 1) := by decide +kernel
theorem dX6_init_50 : decode cX6_init 50 = .ok (.putfield 34, 3) := by decide +kernel
theorem dX6_init_53 : decode cX6_init 53 = .ok (.aload_n 0, 1) := by decide +kernel
theorem dX6_init_54 : decode cX6_init 54 = .ok (.bipush (-9), 2) := by decide +kernel
theorem dX6_init_56 : decode cX6_init 56 = .ok (.putfield 37, 3) := by decide +kernel
theorem dX6_init_59 : decode cX6_init 59 = .ok (.return_, 1) := by decide +kernel
theorem dX6_build_0 : decode cX6_build 0 = .ok (.aload_n 0, 1) := by decide +kernel
theorem dX6_build_1 : decode cX6_build 1 = .ok (.iconst 0, 1) := by decide +kernel
theorem dX6_build_2 : decode cX6_build 2 = .ok (.putfield 21, 3) := by decide +kernel
theorem dX6_build_5 : decode cX6_build 5 = .ok (.aload_n 0, 1) := by decide +kernel
theorem dX6_build_6 : decode cX6_build 6 = .ok (.iconst 0, 1) := by decide +kernel
theorem dX6_build_7 : decode cX6_build 7 = .ok (.putfield 25, 3) := by decide +kernel
theorem dX6_build_10 : decode cX6_build 10 = .ok (.aload_n 0, 1) := by decide +kernel
theorem dX6_build_11 : decode cX6_build 11 = .ok (.iconst 0, 1) := by decide +kernel
theorem dX6_build_12 : decode cX6_build 12 = .ok (.putfield 28, 3) := by decide +kernel
theorem dX6_build_15 : decode cX6_build 15 = .ok (.aload_n 0, 1) := by decide +kernel
theorem dX6_build_16 : decode cX6_build 16 = .ok (.iconst 0, 1) := by decide +kernel
theorem dX6_build_17 : decode cX6_build 17 = .ok (.putfield 31, 3) := by decide +kernel
theorem dX6_build_20 : decode cX6_build 20 = .ok (.aload_n 0, 1) := by decide +kernel
theorem dX6_build_21 : decode cX6_build 21 = .ok (.iconst 0, 1) := by decide +kernel
theorem dX6_build_22 : decode cX6_build 22 = .ok (.putfield 34, 3) := by decide +kernel
theorem dX6_build_25 : decode cX6_build 25 = .ok (.aload_n 0, 1) := by decide +kernel
theorem dX6_build_26 : decode cX6_build 26 = .ok (.bipush (-9), 2) := by decide +kernel
theorem dX6_build_28 : decode cX6_build 28 = .ok (.putfield 37, 3) := by decide +kernel
theorem dX6_build_31 : decode cX6_build 31 = .ok (.aload_n 0, 1) := by decide +kernel
theorem dX6_build_32 : decode cX6_build 32 = .ok (.aload_n 1, 1) := by decide +kernel
theorem dX6_build_33 : decode cX6_build 33 = .ok (.getfield 40, 3) := by decide +kernel
theorem dX6_build_36 : decode cX6_build 36 = .ok (.invokevirtual 46, 3) := by decide +kernel
theorem dX6_build_39 : decode cX6_build 39 = .ok (.aload_n 1, 1) := by decide +kernel
theorem dX6_build_40 : decode cX6_build 40 = .ok (.getfield 50, 3) := by decide +kernel
theorem dX6_build_43 : decode cX6_build 43 = .ok (.istore_n 2, 1) := by decide +kernel
theorem dX6_build_44 : decode cX6_build 44 = .ok (.iconst 0, 1) := by decide +kernel
theorem dX6_build_45 : decode cX6_build 45 = .ok (.istore_n 3, 1) := by decide +kernel
theorem dX6_build_46 : decode cX6_build 46 = .ok (.iload_n 3, 1) := by decide +kernel
theorem dX6_build_47 : decode cX6_build 47 = .ok (.iload_n 2, 1) := by decide +kernel
theorem dX6_build_48 : decode cX6_build 48 = .ok (.if_icmp .ge 38, 3) := by decide +kernel
theorem dX6_build_51 : decode cX6_build 51 = .ok (.aload_n 0, 1) := by decide +kernel
theorem dX6_build_52 : decode cX6_build 52 = .ok (.aload_n 1, 1) := by decide +kernel
theorem dX6_build_53 : decode cX6_build 53 = .ok (.iload_n 3, 1) := by decide +kernel
theorem dX6_build_54 : decode cX6_build 54 = .ok (.invokevirtual 53, 3) := by decide +kernel
theorem dX6_build_57 : decode cX6_build 57 = .ok (.invokevirtual 57, 3) := by decide +kernel
theorem dX6_build_60 : decode cX6_build 60 = .ok (.ifCond .eq 26, 3) := by decide +kernel
theorem dX6_build_63 : decode cX6_build 63 = .ok (.aload_n 0, 1) := by decide +kernel
theorem dX6_build_64 : decode cX6_build 64 = .ok (.aload_n 1, 1) := by decide +kernel
theorem dX6_build_65 : decode cX6_build 65 = .ok (.iload_n 3, 1) := by decide +kernel
theorem dX6_build_66 : decode cX6_build 66 = .ok (.invokevirtual 53, 3) := by decide +kernel
theorem dX6_build_69 : decode cX6_build 69 = .ok (.invokevirtual 61, 3) := by decide +kernel
theorem dX6_build_72 : decode cX6_build 72 = .ok (.aload_n 0, 1) := by decide +kernel
theorem dX6_build_73 : decode cX6_build 73 = .ok (.aload_n 1, 1) := by decide +kernel
theorem dX6_build_74 : decode cX6_build 74 = .ok (.getfield 40, 3) := by decide +kernel
theorem dX6_build_77 : decode cX6_build 77 = .ok (.invokevirtual 46, 3) := by decide +kernel
theorem dX6_build_80 : decode cX6_build 80 = .ok (.iinc 3 1, 3) := by decide +kernel
theorem dX6_build_83 : decode cX6_build 83 = .ok (.goto (-37), 3) := by decide +kernel
theorem dX6_build_86 : decode cX6_build 86 = .ok (.aload_n 1, 1) := by decide +kernel
theorem dX6_build_87 : decode cX6_build 87 = .ok (.aload_n 0, 1) := by decide +kernel
theorem dX6_build_88 : decode cX6_build 88 = .ok (.getfield 31, 3) := by decide +kernel
theorem dX6_build_91 : decode cX6_build 91 = .ok (.invokevirtual 65, 3) := by decide +kernel
theorem dX6_build_94 : decode cX6_build 94 = .ok (.return_, 1) := by decide +kernel
theorem dX6_allows_0 : decode cX6_allows 0 = .ok (.aload_n 0, 1) := by decide +kernel
theorem dX6_allows_1 : decode cX6_allows 1 = .ok (.getfield 37, 3) := by decide +kernel
theorem dX6_allows_4 : decode cX6_allows 4 = .ok (.bipush (-9), 2) := by decide +kernel
theorem dX6_allows_6 : decode cX6_allows 6 = .ok (.if_icmp .ne 18, 3) := by decide +kernel
theorem dX6_allows_9 : decode cX6_allows 9 = .ok (.aload_n 0, 1) := by decide +kernel
theorem dX6_allows_10 : decode cX6_allows 10 = .ok (.iload_n 1, 1) := by decide +kernel
theorem dX6_allows_11 : decode cX6_allows 11 = .ok (.invokestatic 68, 3) := by decide +kernel
theorem dX6_allows_14 : decode cX6_allows 14 = .ok (.invokevirtual 71, 3) := by decide +kernel
theorem dX6_allows_17 : decode cX6_allows 17 = .ok (.ifCond .ne 7, 3) := by decide +kernel
theorem dX6_allows_20 : decode cX6_allows 20 = .ok (.iconst 1, 1) := by decide +kernel
theorem dX6_allows_21 : decode cX6_allows 21 = .ok (.goto 4, 3) := by decide +kernel
theorem dX6_allows_24 : decode cX6_allows 24 = .ok (.iconst 0, 1) := by decide +kernel
theorem dX6_allows_25 : decode cX6_allows 25 = .ok (.ireturn, 1) := by decide +kernel
theorem dX6_startLevel_0 : decode cX6_startLevel 0 = .ok (.aload_n 0, 1) := by decide +kernel
theorem dX6_startLevel_1 : decode cX6_startLevel 1 = .ok (.aload_n 0, 1) := by decide +kernel
theorem dX6_startLevel_2 : decode cX6_startLevel 2 = .ok (.getfield 25, 3) := by decide +kernel
theorem dX6_startLevel_5 : decode cX6_startLevel 5 = .ok (.putfield 34, 3) := by decide +kernel
theorem dX6_startLevel_8 : decode cX6_startLevel 8 = .ok (.aload_n 0, 1) := by decide +kernel
theorem dX6_startLevel_9 : decode cX6_startLevel 9 = .ok (.dup, 1) := by decide +kernel
theorem dX6_startLevel_10 : decode cX6_startLevel 10 = .ok (.getfield 31, 3) := by decide +kernel
theorem dX6_startLevel_13 : decode cX6_startLevel 13 = .ok (.iconst 1, 1) := by decide +kernel
theorem dX6_startLevel_14 : decode cX6_startLevel 14 = .ok (.iadd, 1) := by decide +kernel
theorem dX6_startLevel_15 : decode cX6_startLevel 15 = .ok (.putfield 31, 3) := by decide +kernel
theorem dX6_startLevel_18 : decode cX6_startLevel 18 = .ok (.iload_n 1, 1) := by decide +kernel
theorem dX6_startLevel_19 : decode cX6_startLevel 19 = .ok (.invokestatic 68, 3) := by decide +kernel
theorem dX6_startLevel_22 : decode cX6_startLevel 22 = .ok (.istore_n 2, 1) := by decide +kernel
theorem dX6_startLevel_23 : decode cX6_startLevel 23 = .ok (.aload_n 0, 1) := by decide +kernel
theorem dX6_startLevel_24 : decode cX6_startLevel 24 = .ok (.iload_n 2, 1) := by decide +kernel
theorem dX6_startLevel_25 : decode cX6_startLevel 25 = .ok (.iload_n 1, 1) := by decide +kernel
theorem dX6_startLevel_26 : decode cX6_startLevel 26 = .ok (.iload_n 2, 1) := by decide +kernel
theorem dX6_startLevel_27 : decode cX6_startLevel 27 = .ok (.iconst 1, 1) := by decide +kernel
theorem dX6_startLevel_28 : decode cX6_startLevel 28 = .ok (.invokestatic 74, 3) := by decide +kernel
theorem dX6_startLevel_31 : decode cX6_startLevel 31 = .ok (.if_icmp .ne 7, 3) := by decide +kernel
theorem dX6_startLevel_34 : decode cX6_startLevel 34 = .ok (.iconst 1, 1) := by decide +kernel
theorem dX6_startLevel_35 : decode cX6_startLevel 35 = .ok (.goto 4, 3) := by decide +kernel
theorem dX6_startLevel_38 : decode cX6_startLevel 38 = .ok (.iconst 0, 1) := by decide +kernel
theorem dX6_startLevel_39 : decode cX6_startLevel 39 = .ok (.bipush (-9), 2) := by decide +kernel
theorem dX6_startLevel_41 : decode cX6_startLevel 41 = .ok (.invokevirtual 78, 3) := by decide +kernel
theorem dX6_startLevel_44 : decode cX6_startLevel 44 = .ok (.return_, 1) := by decide +kernel
theorem dX6_propagate_0 : decode cX6_propagate 0 = .ok (.iconst 0, 1) := by decide +kernel
theorem dX6_propagate_1 : decode cX6_propagate 1 = .ok (.istore_n 2, 1) := by decide +kernel
theorem dX6_propagate_2 : decode cX6_propagate 2 = .ok (.iload_n 2, 1) := by decide +kernel
theorem dX6_propagate_3 : decode cX6_propagate 3 = .ok (.bipush 8, 2) := by decide +kernel
theorem dX6_propagate_5 : decode cX6_propagate 5 = .ok (.if_icmp .gt 91, 3) := by decide +kernel
theorem dX6_propagate_8 : decode cX6_propagate 8 = .ok (.aload_n 0, 1) := by decide +kernel
theorem dX6_propagate_9 : decode cX6_propagate 9 = .ok (.getfield 37, 3) := by decide +kernel
theorem dX6_propagate_12 : decode cX6_propagate 12 = .ok (.bipush (-9), 2) := by decide +kernel
theorem dX6_propagate_14 : decode cX6_propagate 14 = .ok (.if_icmp .ne 82, 3) := by decide +kernel
theorem dX6_propagate_17 : decode cX6_propagate 17 = .ok (.aload_n 1, 1) := by decide +kernel
theorem dX6_propagate_18 : decode cX6_propagate 18 = .ok (.aload_n 0, 1) := by decide +kernel
theorem dX6_propagate_19 : decode cX6_propagate 19 = .ok (.getfield 25, 3) := by decide +kernel
theorem dX6_propagate_22 : decode cX6_propagate 22 = .ok (.aload_n 0, 1) := by decide +kernel
theorem dX6_propagate_23 : decode cX6_propagate 23 = .ok (.getfield 28, 3) := by decide +kernel
theorem dX6_propagate_26 : decode cX6_propagate 26 = .ok (.invokevirtual 82, 3) := by decide +kernel
theorem dX6_propagate_29 : decode cX6_propagate 29 = .ok (.istore_n 3, 1) := by decide +kernel
theorem dX6_propagate_30 : decode cX6_propagate 30 = .ok (.iload_n 3, 1) := by decide +kernel
theorem dX6_propagate_31 : decode cX6_propagate 31 = .ok (.bipush (-9), 2) := by decide +kernel
theorem dX6_propagate_33 : decode cX6_propagate 33 = .ok (.if_icmp .ne 4, 3) := by decide +kernel
theorem dX6_propagate_36 : decode cX6_propagate 36 = .ok (.return_, 1) := by decide +kernel
theorem dX6_propagate_37 : decode cX6_propagate 37 = .ok (.aload_n 1, 1) := by decide +kernel
theorem dX6_propagate_38 : decode cX6_propagate 38 = .ok (.iload_n 3, 1) := by decide +kernel
theorem dX6_propagate_39 : decode cX6_propagate 39 = .ok (.invokevirtual 88, 3) := by decide +kernel
theorem dX6_propagate_42 : decode cX6_propagate 42 = .ok (.istore 4, 2) := by decide +kernel
theorem dX6_propagate_44 : decode cX6_propagate 44 = .ok (.iload 4, 2) := by decide +kernel
theorem dX6_propagate_46 : decode cX6_propagate 46 = .ok (.invokestatic 91, 3) := by decide +kernel
theorem dX6_propagate_49 : decode cX6_propagate 49 = .ok (.aload_n 0, 1) := by decide +kernel
theorem dX6_propagate_50 : decode cX6_propagate 50 = .ok (.getfield 25, 3) := by decide +kernel
theorem dX6_propagate_53 : decode cX6_propagate 53 = .ok (.iconst (-1), 1) := by decide +kernel
theorem dX6_propagate_54 : decode cX6_propagate 54 = .ok (.ixor, 1) := by decide +kernel
theorem dX6_propagate_55 : decode cX6_propagate 55 = .ok (.iand, 1) := by decide +kernel
theorem dX6_propagate_56 : decode cX6_propagate 56 = .ok (.istore 5, 2) := by decide +kernel
theorem dX6_propagate_58 : decode cX6_propagate 58 = .ok (.iload 5, 2) := by decide +kernel
theorem dX6_propagate_60 : decode cX6_propagate 60 = .ok (.ifCond .ne 11, 3) := by decide +kernel
theorem dX6_propagate_63 : decode cX6_propagate 63 = .ok (.aload_n 0, 1) := by decide +kernel
theorem dX6_propagate_64 : decode cX6_propagate 64 = .ok (.iload_n 3, 1) := by decide +kernel
theorem dX6_propagate_65 : decode cX6_propagate 65 = .ok (.putfield 37, 3) := by decide +kernel
theorem dX6_propagate_68 : decode cX6_propagate 68 = .ok (.goto 22, 3) := by decide +kernel
theorem dX6_propagate_71 : decode cX6_propagate 71 = .ok (.aload_n 0, 1) := by decide +kernel
theorem dX6_propagate_72 : decode cX6_propagate 72 = .ok (.iload 5, 2) := by decide +kernel
theorem dX6_propagate_74 : decode cX6_propagate 74 = .ok (.invokestatic 94, 3) := by decide +kernel
theorem dX6_propagate_77 : decode cX6_propagate 77 = .ok (.iload 4, 2) := by decide +kernel
theorem dX6_propagate_79 : decode cX6_propagate 79 = .ok (.aload_n 0, 1) := by decide +kernel
theorem dX6_propagate_80 : decode cX6_propagate 80 = .ok (.getfield 28, 3) := by decide +kernel
theorem dX6_propagate_83 : decode cX6_propagate 83 = .ok (.invokestatic 97, 3) := by decide +kernel
theorem dX6_propagate_86 : decode cX6_propagate 86 = .ok (.iload_n 3, 1) := by decide +kernel
theorem dX6_propagate_87 : decode cX6_propagate 87 = .ok (.invokevirtual 78, 3) := by decide +kernel
theorem dX6_propagate_90 : decode cX6_propagate 90 = .ok (.iinc 2 1, 3) := by decide +kernel
theorem dX6_propagate_93 : decode cX6_propagate 93 = .ok (.goto (-91), 3) := by decide +kernel
theorem dX6_propagate_96 : decode cX6_propagate 96 = .ok (.return_, 1) := by decide +kernel
theorem dX6_assign_0 : decode cX6_assign 0 = .ok (.iload_n 1, 1) := by decide +kernel
theorem dX6_assign_1 : decode cX6_assign 1 = .ok (.invokestatic 101, 3) := by decide +kernel
theorem dX6_assign_4 : decode cX6_assign 4 = .ok (.ifCond .eq 12, 3) := by decide +kernel
theorem dX6_assign_7 : decode cX6_assign 7 = .ok (.aload_n 0, 1) := by decide +kernel
theorem dX6_assign_8 : decode cX6_assign 8 = .ok (.getfield 21, 3) := by decide +kernel
theorem dX6_assign_11 : decode cX6_assign 11 = .ok (.bipush 8, 2) := by decide +kernel
theorem dX6_assign_13 : decode cX6_assign 13 = .ok (.if_icmp .lt 4, 3) := by decide +kernel
theorem dX6_assign_16 : decode cX6_assign 16 = .ok (.return_, 1) := by decide +kernel
theorem dX6_assign_17 : decode cX6_assign 17 = .ok (.aload_n 0, 1) := by decide +kernel
theorem dX6_assign_18 : decode cX6_assign 18 = .ok (.getfield 9, 3) := by decide +kernel
theorem dX6_assign_21 : decode cX6_assign 21 = .ok (.aload_n 0, 1) := by decide +kernel
theorem dX6_assign_22 : decode cX6_assign 22 = .ok (.getfield 21, 3) := by decide +kernel
theorem dX6_assign_25 : decode cX6_assign 25 = .ok (.iload_n 1, 1) := by decide +kernel
theorem dX6_assign_26 : decode cX6_assign 26 = .ok (.iastore, 1) := by decide +kernel
theorem dX6_assign_27 : decode cX6_assign 27 = .ok (.aload_n 0, 1) := by decide +kernel
theorem dX6_assign_28 : decode cX6_assign 28 = .ok (.dup, 1) := by decide +kernel
theorem dX6_assign_29 : decode cX6_assign 29 = .ok (.getfield 21, 3) := by decide +kernel
theorem dX6_assign_32 : decode cX6_assign 32 = .ok (.iconst 1, 1) := by decide +kernel
theorem dX6_assign_33 : decode cX6_assign 33 = .ok (.iadd, 1) := by decide +kernel
theorem dX6_assign_34 : decode cX6_assign 34 = .ok (.putfield 21, 3) := by decide +kernel
theorem dX6_assign_37 : decode cX6_assign 37 = .ok (.aload_n 0, 1) := by decide +kernel
theorem dX6_assign_38 : decode cX6_assign 38 = .ok (.getfield 15, 3) := by decide +kernel
theorem dX6_assign_41 : decode cX6_assign 41 = .ok (.iload_n 1, 1) := by decide +kernel
theorem dX6_assign_42 : decode cX6_assign 42 = .ok (.aload_n 0, 1) := by decide +kernel
theorem dX6_assign_43 : decode cX6_assign 43 = .ok (.getfield 31, 3) := by decide +kernel
theorem dX6_assign_46 : decode cX6_assign 46 = .ok (.iastore, 1) := by decide +kernel
theorem dX6_assign_47 : decode cX6_assign 47 = .ok (.aload_n 0, 1) := by decide +kernel
theorem dX6_assign_48 : decode cX6_assign 48 = .ok (.getfield 18, 3) := by decide +kernel
theorem dX6_assign_51 : decode cX6_assign 51 = .ok (.iload_n 1, 1) := by decide +kernel
theorem dX6_assign_52 : decode cX6_assign 52 = .ok (.iload_n 3, 1) := by decide +kernel
theorem dX6_assign_53 : decode cX6_assign 53 = .ok (.iastore, 1) := by decide +kernel
theorem dX6_assign_54 : decode cX6_assign 54 = .ok (.aload_n 0, 1) := by decide +kernel
theorem dX6_assign_55 : decode cX6_assign 55 = .ok (.dup, 1) := by decide +kernel
theorem dX6_assign_56 : decode cX6_assign 56 = .ok (.getfield 25, 3) := by decide +kernel
theorem dX6_assign_59 : decode cX6_assign 59 = .ok (.iconst 1, 1) := by decide +kernel
theorem dX6_assign_60 : decode cX6_assign 60 = .ok (.iload_n 1, 1) := by decide +kernel
theorem dX6_assign_61 : decode cX6_assign 61 = .ok (.ishl, 1) := by decide +kernel
theorem dX6_assign_62 : decode cX6_assign 62 = .ok (.ior, 1) := by decide +kernel
theorem dX6_assign_63 : decode cX6_assign 63 = .ok (.putfield 25, 3) := by decide +kernel
theorem dX6_assign_66 : decode cX6_assign 66 = .ok (.iload_n 2, 1) := by decide +kernel
theorem dX6_assign_67 : decode cX6_assign 67 = .ok (.ifCond .eq 15, 3) := by decide +kernel
theorem dX6_assign_70 : decode cX6_assign 70 = .ok (.aload_n 0, 1) := by decide +kernel
theorem dX6_assign_71 : decode cX6_assign 71 = .ok (.dup, 1) := by decide +kernel
theorem dX6_assign_72 : decode cX6_assign 72 = .ok (.getfield 28, 3) := by decide +kernel
theorem dX6_assign_75 : decode cX6_assign 75 = .ok (.iconst 1, 1) := by decide +kernel
theorem dX6_assign_76 : decode cX6_assign 76 = .ok (.iload_n 1, 1) := by decide +kernel
theorem dX6_assign_77 : decode cX6_assign 77 = .ok (.ishl, 1) := by decide +kernel
theorem dX6_assign_78 : decode cX6_assign 78 = .ok (.ior, 1) := by decide +kernel
theorem dX6_assign_79 : decode cX6_assign 79 = .ok (.putfield 28, 3) := by decide +kernel
theorem dX6_assign_82 : decode cX6_assign 82 = .ok (.return_, 1) := by decide +kernel
theorem dX6_isAssigned_0 : decode cX6_isAssigned 0 = .ok (.aload_n 0, 1) := by decide +kernel
theorem dX6_isAssigned_1 : decode cX6_isAssigned 1 = .ok (.getfield 25, 3) := by decide +kernel
theorem dX6_isAssigned_4 : decode cX6_isAssigned 4 = .ok (.iload_n 1, 1) := by decide +kernel
theorem dX6_isAssigned_5 : decode cX6_isAssigned 5 = .ok (.invokestatic 104, 3) := by decide +kernel
theorem dX6_isAssigned_8 : decode cX6_isAssigned 8 = .ok (.ireturn, 1) := by decide +kernel
theorem dX6_isTrue_0 : decode cX6_isTrue 0 = .ok (.aload_n 0, 1) := by decide +kernel
theorem dX6_isTrue_1 : decode cX6_isTrue 1 = .ok (.getfield 28, 3) := by decide +kernel
theorem dX6_isTrue_4 : decode cX6_isTrue 4 = .ok (.iload_n 1, 1) := by decide +kernel
theorem dX6_isTrue_5 : decode cX6_isTrue 5 = .ok (.invokestatic 104, 3) := by decide +kernel
theorem dX6_isTrue_8 : decode cX6_isTrue 8 = .ok (.ireturn, 1) := by decide +kernel
theorem dX6_literalAt_0 : decode cX6_literalAt 0 = .ok (.iload_n 1, 1) := by decide +kernel
theorem dX6_literalAt_1 : decode cX6_literalAt 1 = .ok (.ifCond .lt 11, 3) := by decide +kernel
theorem dX6_literalAt_4 : decode cX6_literalAt 4 = .ok (.iload_n 1, 1) := by decide +kernel
theorem dX6_literalAt_5 : decode cX6_literalAt 5 = .ok (.aload_n 0, 1) := by decide +kernel
theorem dX6_literalAt_6 : decode cX6_literalAt 6 = .ok (.getfield 21, 3) := by decide +kernel
theorem dX6_literalAt_9 : decode cX6_literalAt 9 = .ok (.if_icmp .lt 6, 3) := by decide +kernel
theorem dX6_literalAt_12 : decode cX6_literalAt 12 = .ok (.bipush (-9), 2) := by decide +kernel
theorem dX6_literalAt_14 : decode cX6_literalAt 14 = .ok (.ireturn, 1) := by decide +kernel
theorem dX6_literalAt_15 : decode cX6_literalAt 15 = .ok (.aload_n 0, 1) := by decide +kernel
theorem dX6_literalAt_16 : decode cX6_literalAt 16 = .ok (.getfield 9, 3) := by decide +kernel
theorem dX6_literalAt_19 : decode cX6_literalAt 19 = .ok (.iload_n 1, 1) := by decide +kernel
theorem dX6_literalAt_20 : decode cX6_literalAt 20 = .ok (.iaload, 1) := by decide +kernel
theorem dX6_literalAt_21 : decode cX6_literalAt 21 = .ok (.aload_n 0, 1) := by decide +kernel
theorem dX6_literalAt_22 : decode cX6_literalAt 22 = .ok (.aload_n 0, 1) := by decide +kernel
theorem dX6_literalAt_23 : decode cX6_literalAt 23 = .ok (.getfield 9, 3) := by decide +kernel
theorem dX6_literalAt_26 : decode cX6_literalAt 26 = .ok (.iload_n 1, 1) := by decide +kernel
theorem dX6_literalAt_27 : decode cX6_literalAt 27 = .ok (.iaload, 1) := by decide +kernel
theorem dX6_literalAt_28 : decode cX6_literalAt 28 = .ok (.invokevirtual 107, 3) := by decide +kernel
theorem dX6_literalAt_31 : decode cX6_literalAt 31 = .ok (.invokestatic 74, 3) := by decide +kernel
theorem dX6_literalAt_34 : decode cX6_literalAt 34 = .ok (.ireturn, 1) := by decide +kernel
theorem dX6_reasonOf_0 : decode cX6_reasonOf 0 = .ok (.iload_n 1, 1) := by decide +kernel
theorem dX6_reasonOf_1 : decode cX6_reasonOf 1 = .ok (.invokestatic 101, 3) := by decide +kernel
theorem dX6_reasonOf_4 : decode cX6_reasonOf 4 = .ok (.ifCond .eq 20, 3) := by decide +kernel
theorem dX6_reasonOf_7 : decode cX6_reasonOf 7 = .ok (.aload_n 0, 1) := by decide +kernel
theorem dX6_reasonOf_8 : decode cX6_reasonOf 8 = .ok (.iload_n 1, 1) := by decide +kernel
theorem dX6_reasonOf_9 : decode cX6_reasonOf 9 = .ok (.invokevirtual 71, 3) := by decide +kernel
theorem dX6_reasonOf_12 : decode cX6_reasonOf 12 = .ok (.ifCond .eq 12, 3) := by decide +kernel
theorem dX6_reasonOf_15 : decode cX6_reasonOf 15 = .ok (.aload_n 0, 1) := by decide +kernel
theorem dX6_reasonOf_16 : decode cX6_reasonOf 16 = .ok (.getfield 18, 3) := by decide +kernel
theorem dX6_reasonOf_19 : decode cX6_reasonOf 19 = .ok (.iload_n 1, 1) := by decide +kernel
theorem dX6_reasonOf_20 : decode cX6_reasonOf 20 = .ok (.iaload, 1) := by decide +kernel
theorem dX6_reasonOf_21 : decode cX6_reasonOf 21 = .ok (.goto 5, 3) := by decide +kernel
theorem dX6_reasonOf_24 : decode cX6_reasonOf 24 = .ok (.bipush (-9), 2) := by decide +kernel
theorem dX6_reasonOf_26 : decode cX6_reasonOf 26 = .ok (.ireturn, 1) := by decide +kernel
theorem dX6_learnedVariables_0 : decode cX6_learnedVariables 0 = .ok (.aload_n 0, 1) := by decide +kernel
theorem dX6_learnedVariables_1 : decode cX6_learnedVariables 1 = .ok (.getfield 25, 3) := by decide +kernel
theorem dX6_learnedVariables_4 : decode cX6_learnedVariables 4 = .ok (.aload_n 0, 1) := by decide +kernel
theorem dX6_learnedVariables_5 : decode cX6_learnedVariables 5 = .ok (.getfield 34, 3) := by decide +kernel
theorem dX6_learnedVariables_8 : decode cX6_learnedVariables 8 = .ok (.iconst (-1), 1) := by decide +kernel
theorem dX6_learnedVariables_9 : decode cX6_learnedVariables 9 = .ok (.ixor, 1) := by decide +kernel
theorem dX6_learnedVariables_10 : decode cX6_learnedVariables 10 = .ok (.iand, 1) := by decide +kernel
theorem dX6_learnedVariables_11 : decode cX6_learnedVariables 11 = .ok (.istore_n 2, 1) := by decide +kernel
theorem dX6_learnedVariables_12 : decode cX6_learnedVariables 12 = .ok (.aload_n 1, 1) := by decide +kernel
theorem dX6_learnedVariables_13 : decode cX6_learnedVariables 13 = .ok (.aload_n 0, 1) := by decide +kernel
theorem dX6_learnedVariables_14 : decode cX6_learnedVariables 14 = .ok (.getfield 37, 3) := by decide +kernel
theorem dX6_learnedVariables_17 : decode cX6_learnedVariables 17 = .ok (.invokevirtual 88, 3) := by decide +kernel
theorem dX6_learnedVariables_20 : decode cX6_learnedVariables 20 = .ok (.invokestatic 91, 3) := by decide +kernel
theorem dX6_learnedVariables_23 : decode cX6_learnedVariables 23 = .ok (.istore_n 3, 1) := by decide +kernel
theorem dX6_learnedVariables_24 : decode cX6_learnedVariables 24 = .ok (.aload_n 0, 1) := by decide +kernel
theorem dX6_learnedVariables_25 : decode cX6_learnedVariables 25 = .ok (.getfield 21, 3) := by decide +kernel
theorem dX6_learnedVariables_28 : decode cX6_learnedVariables 28 = .ok (.iconst 1, 1) := by decide +kernel
theorem dX6_learnedVariables_29 : decode cX6_learnedVariables 29 = .ok (.isub, 1) := by decide +kernel
theorem dX6_learnedVariables_30 : decode cX6_learnedVariables 30 = .ok (.istore 4, 2) := by decide +kernel
theorem dX6_learnedVariables_32 : decode cX6_learnedVariables 32 = .ok (.iload 4, 2) := by decide +kernel
theorem dX6_learnedVariables_34 : decode cX6_learnedVariables 34 = .ok (.ifCond .lt 64, 3) := by decide +kernel
theorem dX6_learnedVariables_37 : decode cX6_learnedVariables 37 = .ok (.iload_n 3, 1) := by decide +kernel
theorem dX6_learnedVariables_38 : decode cX6_learnedVariables 38 = .ok (.iload_n 2, 1) := by decide +kernel
theorem dX6_learnedVariables_39 : decode cX6_learnedVariables 39 = .ok (.iand, 1) := by decide +kernel
theorem dX6_learnedVariables_40 : decode cX6_learnedVariables 40 = .ok (.invokestatic 110, 3) := by decide +kernel
theorem dX6_learnedVariables_43 : decode cX6_learnedVariables 43 = .ok (.iconst 1, 1) := by decide +kernel
theorem dX6_learnedVariables_44 : decode cX6_learnedVariables 44 = .ok (.if_icmp .le 54, 3) := by decide +kernel
theorem dX6_learnedVariables_47 : decode cX6_learnedVariables 47 = .ok (.aload_n 0, 1) := by decide +kernel
theorem dX6_learnedVariables_48 : decode cX6_learnedVariables 48 = .ok (.getfield 9, 3) := by decide +kernel
theorem dX6_learnedVariables_51 : decode cX6_learnedVariables 51 = .ok (.iload 4, 2) := by decide +kernel
theorem dX6_learnedVariables_53 : decode cX6_learnedVariables 53 = .ok (.iaload, 1) := by decide +kernel
theorem dX6_learnedVariables_54 : decode cX6_learnedVariables 54 = .ok (.istore 5, 2) := by decide +kernel
theorem dX6_learnedVariables_56 : decode cX6_learnedVariables 56 = .ok (.iload_n 3, 1) := by decide +kernel
theorem dX6_learnedVariables_57 : decode cX6_learnedVariables 57 = .ok (.iload 5, 2) := by decide +kernel
theorem dX6_learnedVariables_59 : decode cX6_learnedVariables 59 = .ok (.invokestatic 104, 3) := by decide +kernel
theorem dX6_learnedVariables_62 : decode cX6_learnedVariables 62 = .ok (.ifCond .eq 30, 3) := by decide +kernel
theorem dX6_learnedVariables_65 : decode cX6_learnedVariables 65 = .ok (.aload_n 1, 1) := by decide +kernel
theorem dX6_learnedVariables_66 : decode cX6_learnedVariables 66 = .ok (.aload_n 0, 1) := by decide +kernel
theorem dX6_learnedVariables_67 : decode cX6_learnedVariables 67 = .ok (.iload 5, 2) := by decide +kernel
theorem dX6_learnedVariables_69 : decode cX6_learnedVariables 69 = .ok (.invokevirtual 115, 3) := by decide +kernel
theorem dX6_learnedVariables_72 : decode cX6_learnedVariables 72 = .ok (.invokevirtual 88, 3) := by decide +kernel
theorem dX6_learnedVariables_75 : decode cX6_learnedVariables 75 = .ok (.invokestatic 91, 3) := by decide +kernel
theorem dX6_learnedVariables_78 : decode cX6_learnedVariables 78 = .ok (.istore 6, 2) := by decide +kernel
theorem dX6_learnedVariables_80 : decode cX6_learnedVariables 80 = .ok (.iload_n 3, 1) := by decide +kernel
theorem dX6_learnedVariables_81 : decode cX6_learnedVariables 81 = .ok (.iload 6, 2) := by decide +kernel
theorem dX6_learnedVariables_83 : decode cX6_learnedVariables 83 = .ok (.ior, 1) := by decide +kernel
theorem dX6_learnedVariables_84 : decode cX6_learnedVariables 84 = .ok (.iconst 1, 1) := by decide +kernel
theorem dX6_learnedVariables_85 : decode cX6_learnedVariables 85 = .ok (.iload 5, 2) := by decide +kernel
theorem dX6_learnedVariables_87 : decode cX6_learnedVariables 87 = .ok (.ishl, 1) := by decide +kernel
theorem dX6_learnedVariables_88 : decode cX6_learnedVariables 88 = .ok (.iconst (-1), 1) := by decide +kernel
theorem dX6_learnedVariables_89 : decode cX6_learnedVariables 89 = .ok (.ixor, 1) := by decide +kernel
theorem dX6_learnedVariables_90 : decode cX6_learnedVariables 90 = .ok (.iand, 1) := by decide +kernel
theorem dX6_learnedVariables_91 : decode cX6_learnedVariables 91 = .ok (.istore_n 3, 1) := by decide +kernel
theorem dX6_learnedVariables_92 : decode cX6_learnedVariables 92 = .ok (.iinc 4 (-1), 3) := by decide +kernel
theorem dX6_learnedVariables_95 : decode cX6_learnedVariables 95 = .ok (.goto (-63), 3) := by decide +kernel
theorem dX6_learnedVariables_98 : decode cX6_learnedVariables 98 = .ok (.iload_n 3, 1) := by decide +kernel
theorem dX6_learnedVariables_99 : decode cX6_learnedVariables 99 = .ok (.ireturn, 1) := by decide +kernel
theorem dX6_backjumpLevel_0 : decode cX6_backjumpLevel 0 = .ok (.iconst 0, 1) := by decide +kernel
theorem dX6_backjumpLevel_1 : decode cX6_backjumpLevel 1 = .ok (.istore_n 2, 1) := by decide +kernel
theorem dX6_backjumpLevel_2 : decode cX6_backjumpLevel 2 = .ok (.iconst 0, 1) := by decide +kernel
theorem dX6_backjumpLevel_3 : decode cX6_backjumpLevel 3 = .ok (.istore_n 3, 1) := by decide +kernel
theorem dX6_backjumpLevel_4 : decode cX6_backjumpLevel 4 = .ok (.iload_n 3, 1) := by decide +kernel
theorem dX6_backjumpLevel_5 : decode cX6_backjumpLevel 5 = .ok (.bipush 8, 2) := by decide +kernel
theorem dX6_backjumpLevel_7 : decode cX6_backjumpLevel 7 = .ok (.if_icmp .ge 33, 3) := by decide +kernel
theorem dX6_backjumpLevel_10 : decode cX6_backjumpLevel 10 = .ok (.iload_n 1, 1) := by decide +kernel
theorem dX6_backjumpLevel_11 : decode cX6_backjumpLevel 11 = .ok (.aload_n 0, 1) := by decide +kernel
theorem dX6_backjumpLevel_12 : decode cX6_backjumpLevel 12 = .ok (.getfield 34, 3) := by decide +kernel
theorem dX6_backjumpLevel_15 : decode cX6_backjumpLevel 15 = .ok (.iand, 1) := by decide +kernel
theorem dX6_backjumpLevel_16 : decode cX6_backjumpLevel 16 = .ok (.iload_n 3, 1) := by decide +kernel
theorem dX6_backjumpLevel_17 : decode cX6_backjumpLevel 17 = .ok (.invokestatic 104, 3) := by decide +kernel
theorem dX6_backjumpLevel_20 : decode cX6_backjumpLevel 20 = .ok (.ifCond .eq 14, 3) := by decide +kernel
theorem dX6_backjumpLevel_23 : decode cX6_backjumpLevel 23 = .ok (.iload_n 2, 1) := by decide +kernel
theorem dX6_backjumpLevel_24 : decode cX6_backjumpLevel 24 = .ok (.aload_n 0, 1) := by decide +kernel
theorem dX6_backjumpLevel_25 : decode cX6_backjumpLevel 25 = .ok (.getfield 15, 3) := by decide +kernel
theorem dX6_backjumpLevel_28 : decode cX6_backjumpLevel 28 = .ok (.iload_n 3, 1) := by decide +kernel
theorem dX6_backjumpLevel_29 : decode cX6_backjumpLevel 29 = .ok (.iaload, 1) := by decide +kernel
theorem dX6_backjumpLevel_30 : decode cX6_backjumpLevel 30 = .ok (.invokestatic 118, 3) := by decide +kernel
theorem dX6_backjumpLevel_33 : decode cX6_backjumpLevel 33 = .ok (.istore_n 2, 1) := by decide +kernel
theorem dX6_backjumpLevel_34 : decode cX6_backjumpLevel 34 = .ok (.iinc 3 1, 3) := by decide +kernel
theorem dX6_backjumpLevel_37 : decode cX6_backjumpLevel 37 = .ok (.goto (-33), 3) := by decide +kernel
theorem dX6_backjumpLevel_40 : decode cX6_backjumpLevel 40 = .ok (.iload_n 2, 1) := by decide +kernel
theorem dX6_backjumpLevel_41 : decode cX6_backjumpLevel 41 = .ok (.ireturn, 1) := by decide +kernel
theorem dX6_falseClause_0 : decode cX6_falseClause 0 = .ok (.iload_n 1, 1) := by decide +kernel
theorem dX6_falseClause_1 : decode cX6_falseClause 1 = .ok (.aload_n 0, 1) := by decide +kernel
theorem dX6_falseClause_2 : decode cX6_falseClause 2 = .ok (.getfield 28, 3) := by decide +kernel
theorem dX6_falseClause_5 : decode cX6_falseClause 5 = .ok (.iconst (-1), 1) := by decide +kernel
theorem dX6_falseClause_6 : decode cX6_falseClause 6 = .ok (.ixor, 1) := by decide +kernel
theorem dX6_falseClause_7 : decode cX6_falseClause 7 = .ok (.iand, 1) := by decide +kernel
theorem dX6_falseClause_8 : decode cX6_falseClause 8 = .ok (.iload_n 1, 1) := by decide +kernel
theorem dX6_falseClause_9 : decode cX6_falseClause 9 = .ok (.aload_n 0, 1) := by decide +kernel
theorem dX6_falseClause_10 : decode cX6_falseClause 10 = .ok (.getfield 28, 3) := by decide +kernel
theorem dX6_falseClause_13 : decode cX6_falseClause 13 = .ok (.iand, 1) := by decide +kernel
theorem dX6_falseClause_14 : decode cX6_falseClause 14 = .ok (.invokestatic 123, 3) := by decide +kernel
theorem dX6_falseClause_17 : decode cX6_falseClause 17 = .ok (.ireturn, 1) := by decide +kernel
theorem dX7_init_0 : decode cX7_init 0 = .ok (.aload_n 0, 1) := by decide +kernel
theorem dX7_init_1 : decode cX7_init 1 = .ok (.invokespecial 1, 3) := by decide +kernel
theorem dX7_init_4 : decode cX7_init 4 = .ok (.aload_n 0, 1) := by decide +kernel
theorem dX7_init_5 : decode cX7_init 5 = .ok (.new 7, 3) := by decide +kernel
theorem dX7_init_8 : decode cX7_init 8 = .ok (.dup, 1) := by decide +kernel
theorem dX7_init_9 : decode cX7_init 9 = .ok (.invokespecial 9, 3) := by decide +kernel
theorem dX7_init_12 : decode cX7_init 12 = .ok (.putfield 10, 3) := by decide +kernel
theorem dX7_init_15 : decode cX7_init 15 = .ok (.aload_n 0, 1) := by decide +kernel
theorem dX7_init_16 : decode cX7_init 16 = .ok (.new 16, 3) := by decide +kernel
theorem dX7_init_19 : decode cX7_init 19 = .ok (.dup, 1) := by decide +kernel
theorem dX7_init_20 : decode cX7_init 20 = .ok (.invokespecial 18, 3) := by decide +kernel
theorem dX7_init_23 : decode cX7_init 23 = .ok (.putfield 19, 3) := by decide +kernel
theorem dX7_init_26 : decode cX7_init 26 = .ok (.aload_n 0, 1) := by decide +kernel
theorem dX7_init_27 : decode cX7_init 27 = .ok (.new 23, 3) := by decide +kernel
theorem dX7_init_30 : decode cX7_init 30 = .ok (.dup, 1) := by decide +kernel
theorem dX7_init_31 : decode cX7_init 31 = .ok (.invokespecial 25, 3) := by decide +kernel
theorem dX7_init_34 : decode cX7_init 34 = .ok (.putfield 26, 3) := by decide +kernel
theorem dX7_init_37 : decode cX7_init 37 = .ok (.aload_n 0, 1) := by decide +kernel
theorem dX7_init_38 : decode cX7_init 38 = .ok (.new 30, 3) := by decide +kernel
theorem dX7_init_41 : decode cX7_init 41 = .ok (.dup, 1) := by decide +kernel
theorem dX7_init_42 : decode cX7_init 42 = .ok (.invokespecial 32, 3) := by decide +kernel
theorem dX7_init_45 : decode cX7_init 45 = .ok (.putfield 33, 3) := by decide +kernel
theorem dX7_init_48 : decode cX7_init 48 = .ok (.aload_n 0, 1) := by decide +kernel
theorem dX7_init_49 : decode cX7_init 49 = .ok (.new 37, 3) := by decide +kernel
theorem dX7_init_52 : decode cX7_init 52 = .ok (.dup, 1) := by decide +kernel
theorem dX7_init_53 : decode cX7_init 53 = .ok (.invokespecial 39, 3) := by decide +kernel
theorem dX7_init_56 : decode cX7_init 56 = .ok (.putfield 40, 3) := by decide +kernel
theorem dX7_init_59 : decode cX7_init 59 = .ok (.aload_n 0, 1) := by decide +kernel
theorem dX7_init_60 : decode cX7_init 60 = .ok (.new 44, 3) := by decide +kernel
theorem dX7_init_63 : decode cX7_init 63 = .ok (.dup, 1) := by decide +kernel
theorem dX7_init_64 : decode cX7_init 64 = .ok (.invokespecial 46, 3) := by decide +kernel
theorem dX7_init_67 : decode cX7_init 67 = .ok (.putfield 47, 3) := by decide +kernel
theorem dX7_init_70 : decode cX7_init 70 = .ok (.aload_n 0, 1) := by decide +kernel
theorem dX7_init_71 : decode cX7_init 71 = .ok (.new 16, 3) := by decide +kernel
theorem dX7_init_74 : decode cX7_init 74 = .ok (.dup, 1) := by decide +kernel
theorem dX7_init_75 : decode cX7_init 75 = .ok (.invokespecial 18, 3) := by decide +kernel
theorem dX7_init_78 : decode cX7_init 78 = .ok (.putfield 51, 3) := by decide +kernel
theorem dX7_init_81 : decode cX7_init 81 = .ok (.aload_n 0, 1) := by decide +kernel
theorem dX7_init_82 : decode cX7_init 82 = .ok (.new 23, 3) := by decide +kernel
theorem dX7_init_85 : decode cX7_init 85 = .ok (.dup, 1) := by decide +kernel
theorem dX7_init_86 : decode cX7_init 86 = .ok (.invokespecial 25, 3) := by decide +kernel
theorem dX7_init_89 : decode cX7_init 89 = .ok (.putfield 54, 3) := by decide +kernel
theorem dX7_init_92 : decode cX7_init 92 = .ok (.return_, 1) := by decide +kernel
theorem dX7_append_0 : decode cX7_append 0 = .ok (.iload_n 1, 1) := by decide +kernel
theorem dX7_append_1 : decode cX7_append 1 = .ok (.ifCond .lt 10, 3) := by decide +kernel
theorem dX7_append_4 : decode cX7_append 4 = .ok (.iload_n 1, 1) := by decide +kernel
theorem dX7_append_5 : decode cX7_append 5 = .ok (.sipush 255, 3) := by decide +kernel
theorem dX7_append_8 : decode cX7_append 8 = .ok (.if_icmp .le 13, 3) := by decide +kernel
theorem dX7_append_11 : decode cX7_append 11 = .ok (.new 57, 3) := by decide +kernel
theorem dX7_append_14 : decode cX7_append 14 = .ok (.dup, 1) := by decide +kernel
theorem dX7_append_15 : decode cX7_append 15 = .ok (.ldc 59, 2) := by decide +kernel
theorem dX7_append_17 : decode cX7_append 17 = .ok (.invokespecial 61, 3) := by decide +kernel
theorem dX7_append_20 : decode cX7_append 20 = .ok (.athrow, 1) := by decide +kernel
theorem dX7_append_21 : decode cX7_append 21 = .ok (.aload_n 0, 1) := by decide +kernel
theorem dX7_append_22 : decode cX7_append 22 = .ok (.getfield 10, 3) := by decide +kernel
theorem dX7_append_25 : decode cX7_append 25 = .ok (.getfield 64, 3) := by decide +kernel
theorem dX7_append_28 : decode cX7_append 28 = .ok (.bipush 90, 2) := by decide +kernel
theorem dX7_append_30 : decode cX7_append 30 = .ok (.if_icmp .lt 13, 3) := by decide +kernel
theorem dX7_append_33 : decode cX7_append 33 = .ok (.new 68, 3) := by decide +kernel
theorem dX7_append_36 : decode cX7_append 36 = .ok (.dup, 1) := by decide +kernel
theorem dX7_append_37 : decode cX7_append 37 = .ok (.ldc 70, 2) := by decide +kernel
theorem dX7_append_39 : decode cX7_append 39 = .ok (.invokespecial 72, 3) := by decide +kernel
theorem dX7_append_42 : decode cX7_append 42 = .ok (.athrow, 1) := by decide +kernel
theorem dX7_append_43 : decode cX7_append 43 = .ok (.aload_n 0, 1) := by decide +kernel
theorem dX7_append_44 : decode cX7_append 44 = .ok (.getfield 10, 3) := by decide +kernel
theorem dX7_append_47 : decode cX7_append 47 = .ok (.iload_n 1, 1) := by decide +kernel
theorem dX7_append_48 : decode cX7_append 48 = .ok (.invokevirtual 73, 3) := by decide +kernel
theorem dX7_append_51 : decode cX7_append 51 = .ok (.aload_n 0, 1) := by decide +kernel
theorem dX7_append_52 : decode cX7_append 52 = .ok (.getfield 10, 3) := by decide +kernel
theorem dX7_append_55 : decode cX7_append 55 = .ok (.getfield 64, 3) := by decide +kernel
theorem dX7_append_58 : decode cX7_append 58 = .ok (.ireturn, 1) := by decide +kernel
theorem dX7_clearText_0 : decode cX7_clearText 0 = .ok (.aload_n 0, 1) := by decide +kernel
theorem dX7_clearText_1 : decode cX7_clearText 1 = .ok (.getfield 10, 3) := by decide +kernel
theorem dX7_clearText_4 : decode cX7_clearText 4 = .ok (.getfield 64, 3) := by decide +kernel
theorem dX7_clearText_7 : decode cX7_clearText 7 = .ok (.istore_n 1, 1) := by decide +kernel
theorem dX7_clearText_8 : decode cX7_clearText 8 = .ok (.aload_n 0, 1) := by decide +kernel
theorem dX7_clearText_9 : decode cX7_clearText 9 = .ok (.getfield 10, 3) := by decide +kernel
theorem dX7_clearText_12 : decode cX7_clearText 12 = .ok (.iconst 0, 1) := by decide +kernel
theorem dX7_clearText_13 : decode cX7_clearText 13 = .ok (.putfield 64, 3) := by decide +kernel
theorem dX7_clearText_16 : decode cX7_clearText 16 = .ok (.iload_n 1, 1) := by decide +kernel
theorem dX7_clearText_17 : decode cX7_clearText 17 = .ok (.ireturn, 1) := by decide +kernel
theorem dX7_errorPosition_0 : decode cX7_errorPosition 0 = .ok (.aload_n 0, 1) := by decide +kernel
theorem dX7_errorPosition_1 : decode cX7_errorPosition 1 = .ok (.getfield 10, 3) := by decide +kernel
theorem dX7_errorPosition_4 : decode cX7_errorPosition 4 = .ok (.invokevirtual 77, 3) := by decide +kernel
theorem dX7_errorPosition_7 : decode cX7_errorPosition 7 = .ok (.ireturn, 1) := by decide +kernel
theorem dX7_load_0 : decode cX7_load 0 = .ok (.aload_n 0, 1) := by decide +kernel
theorem dX7_load_1 : decode cX7_load 1 = .ok (.getfield 10, 3) := by decide +kernel
theorem dX7_load_4 : decode cX7_load 4 = .ok (.invokevirtual 77, 3) := by decide +kernel
theorem dX7_load_7 : decode cX7_load 7 = .ok (.bipush (-9), 2) := by decide +kernel
theorem dX7_load_9 : decode cX7_load 9 = .ok (.if_icmp .eq 13, 3) := by decide +kernel
theorem dX7_load_12 : decode cX7_load 12 = .ok (.new 68, 3) := by decide +kernel
theorem dX7_load_15 : decode cX7_load 15 = .ok (.dup, 1) := by decide +kernel
theorem dX7_load_16 : decode cX7_load 16 = .ok (.ldc 81, 2) := by decide +kernel
theorem dX7_load_18 : decode cX7_load 18 = .ok (.invokespecial 72, 3) := by decide +kernel
theorem dX7_load_21 : decode cX7_load 21 = .ok (.athrow, 1) := by decide +kernel
theorem dX7_load_22 : decode cX7_load 22 = .ok (.aload_n 0, 1) := by decide +kernel
theorem dX7_load_23 : decode cX7_load 23 = .ok (.getfield 19, 3) := by decide +kernel
theorem dX7_load_26 : decode cX7_load 26 = .ok (.getfield 83, 3) := by decide +kernel
theorem dX7_load_29 : decode cX7_load 29 = .ok (.aload_n 0, 1) := by decide +kernel
theorem dX7_load_30 : decode cX7_load 30 = .ok (.getfield 10, 3) := by decide +kernel
theorem dX7_load_33 : decode cX7_load 33 = .ok (.getfield 87, 3) := by decide +kernel
theorem dX7_load_36 : decode cX7_load 36 = .ok (.invokevirtual 88, 3) := by decide +kernel
theorem dX7_load_39 : decode cX7_load 39 = .ok (.aload_n 0, 1) := by decide +kernel
theorem dX7_load_40 : decode cX7_load 40 = .ok (.getfield 19, 3) := by decide +kernel
theorem dX7_load_43 : decode cX7_load 43 = .ok (.iconst 0, 1) := by decide +kernel
theorem dX7_load_44 : decode cX7_load 44 = .ok (.invokevirtual 94, 3) := by decide +kernel
theorem dX7_load_47 : decode cX7_load 47 = .ok (.aload_n 0, 1) := by decide +kernel
theorem dX7_load_48 : decode cX7_load 48 = .ok (.getfield 33, 3) := by decide +kernel
theorem dX7_load_51 : decode cX7_load 51 = .ok (.invokevirtual 97, 3) := by decide +kernel
theorem dX7_load_54 : decode cX7_load 54 = .ok (.aload_n 0, 1) := by decide +kernel
theorem dX7_load_55 : decode cX7_load 55 = .ok (.getfield 33, 3) := by decide +kernel
theorem dX7_load_58 : decode cX7_load 58 = .ok (.invokevirtual 100, 3) := by decide +kernel
theorem dX7_load_61 : decode cX7_load 61 = .ok (.aload_n 0, 1) := by decide +kernel
theorem dX7_load_62 : decode cX7_load 62 = .ok (.invokevirtual 103, 3) := by decide +kernel
theorem dX7_load_65 : decode cX7_load 65 = .ok (.aload_n 0, 1) := by decide +kernel
theorem dX7_load_66 : decode cX7_load 66 = .ok (.getfield 19, 3) := by decide +kernel
theorem dX7_load_69 : decode cX7_load 69 = .ok (.getfield 83, 3) := by decide +kernel
theorem dX7_load_72 : decode cX7_load 72 = .ok (.getfield 106, 3) := by decide +kernel
theorem dX7_load_75 : decode cX7_load 75 = .ok (.ireturn, 1) := by decide +kernel
theorem dX7_constraintCount_0 : decode cX7_constraintCount 0 = .ok (.aload_n 0, 1) := by decide +kernel
theorem dX7_constraintCount_1 : decode cX7_constraintCount 1 = .ok (.getfield 19, 3) := by decide +kernel
theorem dX7_constraintCount_4 : decode cX7_constraintCount 4 = .ok (.getfield 83, 3) := by decide +kernel
theorem dX7_constraintCount_7 : decode cX7_constraintCount 7 = .ok (.getfield 106, 3) := by decide +kernel
theorem dX7_constraintCount_10 : decode cX7_constraintCount 10 = .ok (.ireturn, 1) := by decide +kernel
theorem dX7_isParity_0 : decode cX7_isParity 0 = .ok (.aload_n 0, 1) := by decide +kernel
theorem dX7_isParity_1 : decode cX7_isParity 1 = .ok (.iload_n 1, 1) := by decide +kernel
theorem dX7_isParity_2 : decode cX7_isParity 2 = .ok (.invokevirtual 109, 3) := by decide +kernel
theorem dX7_isParity_5 : decode cX7_isParity 5 = .ok (.aload_n 0, 1) := by decide +kernel
theorem dX7_isParity_6 : decode cX7_isParity 6 = .ok (.getfield 19, 3) := by decide +kernel
theorem dX7_isParity_9 : decode cX7_isParity 9 = .ok (.getfield 83, 3) := by decide +kernel
theorem dX7_isParity_12 : decode cX7_isParity 12 = .ok (.iload_n 1, 1) := by decide +kernel
theorem dX7_isParity_13 : decode cX7_isParity 13 = .ok (.invokevirtual 112, 3) := by decide +kernel
theorem dX7_isParity_16 : decode cX7_isParity 16 = .ok (.invokestatic 116, 3) := by decide +kernel
theorem dX7_isParity_19 : decode cX7_isParity 19 = .ok (.ireturn, 1) := by decide +kernel
theorem dX7_variables_0 : decode cX7_variables 0 = .ok (.aload_n 0, 1) := by decide +kernel
theorem dX7_variables_1 : decode cX7_variables 1 = .ok (.iload_n 1, 1) := by decide +kernel
theorem dX7_variables_2 : decode cX7_variables 2 = .ok (.invokevirtual 109, 3) := by decide +kernel
theorem dX7_variables_5 : decode cX7_variables 5 = .ok (.aload_n 0, 1) := by decide +kernel
theorem dX7_variables_6 : decode cX7_variables 6 = .ok (.getfield 19, 3) := by decide +kernel
theorem dX7_variables_9 : decode cX7_variables 9 = .ok (.getfield 83, 3) := by decide +kernel
theorem dX7_variables_12 : decode cX7_variables 12 = .ok (.iload_n 1, 1) := by decide +kernel
theorem dX7_variables_13 : decode cX7_variables 13 = .ok (.invokevirtual 112, 3) := by decide +kernel
theorem dX7_variables_16 : decode cX7_variables 16 = .ok (.invokestatic 120, 3) := by decide +kernel
theorem dX7_variables_19 : decode cX7_variables 19 = .ok (.ireturn, 1) := by decide +kernel
theorem dX7_negated_0 : decode cX7_negated 0 = .ok (.aload_n 0, 1) := by decide +kernel
theorem dX7_negated_1 : decode cX7_negated 1 = .ok (.iload_n 1, 1) := by decide +kernel
theorem dX7_negated_2 : decode cX7_negated 2 = .ok (.invokevirtual 109, 3) := by decide +kernel
theorem dX7_negated_5 : decode cX7_negated 5 = .ok (.aload_n 0, 1) := by decide +kernel
theorem dX7_negated_6 : decode cX7_negated 6 = .ok (.getfield 19, 3) := by decide +kernel
theorem dX7_negated_9 : decode cX7_negated 9 = .ok (.getfield 83, 3) := by decide +kernel
theorem dX7_negated_12 : decode cX7_negated 12 = .ok (.iload_n 1, 1) := by decide +kernel
theorem dX7_negated_13 : decode cX7_negated 13 = .ok (.invokevirtual 112, 3) := by decide +kernel
theorem dX7_negated_16 : decode cX7_negated 16 = .ok (.invokestatic 123, 3) := by decide +kernel
theorem dX7_negated_19 : decode cX7_negated 19 = .ok (.ireturn, 1) := by decide +kernel
theorem dX7_addClause_0 : decode cX7_addClause 0 = .ok (.iload_n 1, 1) := by decide +kernel
theorem dX7_addClause_1 : decode cX7_addClause 1 = .ok (.iload_n 2, 1) := by decide +kernel
theorem dX7_addClause_2 : decode cX7_addClause 2 = .ok (.invokestatic 126, 3) := by decide +kernel
theorem dX7_addClause_5 : decode cX7_addClause 5 = .ok (.aload_n 0, 1) := by decide +kernel
theorem dX7_addClause_6 : decode cX7_addClause 6 = .ok (.invokevirtual 130, 3) := by decide +kernel
theorem dX7_addClause_9 : decode cX7_addClause 9 = .ok (.aload_n 0, 1) := by decide +kernel
theorem dX7_addClause_10 : decode cX7_addClause 10 = .ok (.iload_n 1, 1) := by decide +kernel
theorem dX7_addClause_11 : decode cX7_addClause 11 = .ok (.iload_n 2, 1) := by decide +kernel
theorem dX7_addClause_12 : decode cX7_addClause 12 = .ok (.invokestatic 133, 3) := by decide +kernel
theorem dX7_addClause_15 : decode cX7_addClause 15 = .ok (.invokevirtual 137, 3) := by decide +kernel
theorem dX7_addClause_18 : decode cX7_addClause 18 = .ok (.ireturn, 1) := by decide +kernel
theorem dX7_addParity_0 : decode cX7_addParity 0 = .ok (.iload_n 1, 1) := by decide +kernel
theorem dX7_addParity_1 : decode cX7_addParity 1 = .ok (.iload_n 2, 1) := by decide +kernel
theorem dX7_addParity_2 : decode cX7_addParity 2 = .ok (.invokestatic 140, 3) := by decide +kernel
theorem dX7_addParity_5 : decode cX7_addParity 5 = .ok (.aload_n 0, 1) := by decide +kernel
theorem dX7_addParity_6 : decode cX7_addParity 6 = .ok (.invokevirtual 130, 3) := by decide +kernel
theorem dX7_addParity_9 : decode cX7_addParity 9 = .ok (.aload_n 0, 1) := by decide +kernel
theorem dX7_addParity_10 : decode cX7_addParity 10 = .ok (.iload_n 1, 1) := by decide +kernel
theorem dX7_addParity_11 : decode cX7_addParity 11 = .ok (.iload_n 2, 1) := by decide +kernel
theorem dX7_addParity_12 : decode cX7_addParity 12 = .ok (.invokestatic 143, 3) := by decide +kernel
theorem dX7_addParity_15 : decode cX7_addParity 15 = .ok (.invokevirtual 137, 3) := by decide +kernel
theorem dX7_addParity_18 : decode cX7_addParity 18 = .ok (.ireturn, 1) := by decide +kernel
theorem dX7_removeConstraint_0 : decode cX7_removeConstraint 0 = .ok (.aload_n 0, 1) := by decide +kernel
theorem dX7_removeConstraint_1 : decode cX7_removeConstraint 1 = .ok (.iload_n 1, 1) := by decide +kernel
theorem dX7_removeConstraint_2 : decode cX7_removeConstraint 2 = .ok (.invokevirtual 109, 3) := by decide +kernel
theorem dX7_removeConstraint_5 : decode cX7_removeConstraint 5 = .ok (.aload_n 0, 1) := by decide +kernel
theorem dX7_removeConstraint_6 : decode cX7_removeConstraint 6 = .ok (.getfield 33, 3) := by decide +kernel
theorem dX7_removeConstraint_9 : decode cX7_removeConstraint 9 = .ok (.aload_n 0, 1) := by decide +kernel
theorem dX7_removeConstraint_10 : decode cX7_removeConstraint 10 = .ok (.getfield 19, 3) := by decide +kernel
theorem dX7_removeConstraint_13 : decode cX7_removeConstraint 13 = .ok (.invokevirtual 146, 3) := by decide +kernel
theorem dX7_removeConstraint_16 : decode cX7_removeConstraint 16 = .ok (.aload_n 0, 1) := by decide +kernel
theorem dX7_removeConstraint_17 : decode cX7_removeConstraint 17 = .ok (.getfield 19, 3) := by decide +kernel
theorem dX7_removeConstraint_20 : decode cX7_removeConstraint 20 = .ok (.getfield 83, 3) := by decide +kernel
theorem dX7_removeConstraint_23 : decode cX7_removeConstraint 23 = .ok (.iload_n 1, 1) := by decide +kernel
theorem dX7_removeConstraint_24 : decode cX7_removeConstraint 24 = .ok (.invokevirtual 150, 3) := by decide +kernel
theorem dX7_removeConstraint_27 : decode cX7_removeConstraint 27 = .ok (.aload_n 0, 1) := by decide +kernel
theorem dX7_removeConstraint_28 : decode cX7_removeConstraint 28 = .ok (.invokevirtual 103, 3) := by decide +kernel
theorem dX7_removeConstraint_31 : decode cX7_removeConstraint 31 = .ok (.aload_n 0, 1) := by decide +kernel
theorem dX7_removeConstraint_32 : decode cX7_removeConstraint 32 = .ok (.getfield 19, 3) := by decide +kernel
theorem dX7_removeConstraint_35 : decode cX7_removeConstraint 35 = .ok (.getfield 83, 3) := by decide +kernel
theorem dX7_removeConstraint_38 : decode cX7_removeConstraint 38 = .ok (.getfield 106, 3) := by decide +kernel
theorem dX7_removeConstraint_41 : decode cX7_removeConstraint 41 = .ok (.ireturn, 1) := by decide +kernel
theorem dX7_resolve_0 : decode cX7_resolve 0 = .ok (.aload_n 0, 1) := by decide +kernel
theorem dX7_resolve_1 : decode cX7_resolve 1 = .ok (.iload_n 1, 1) := by decide +kernel
theorem dX7_resolve_2 : decode cX7_resolve 2 = .ok (.invokevirtual 109, 3) := by decide +kernel
theorem dX7_resolve_5 : decode cX7_resolve 5 = .ok (.aload_n 0, 1) := by decide +kernel
theorem dX7_resolve_6 : decode cX7_resolve 6 = .ok (.iload_n 2, 1) := by decide +kernel
theorem dX7_resolve_7 : decode cX7_resolve 7 = .ok (.invokevirtual 109, 3) := by decide +kernel
theorem dX7_resolve_10 : decode cX7_resolve 10 = .ok (.iload_n 3, 1) := by decide +kernel
theorem dX7_resolve_11 : decode cX7_resolve 11 = .ok (.invokestatic 153, 3) := by decide +kernel
theorem dX7_resolve_14 : decode cX7_resolve 14 = .ok (.aload_n 0, 1) := by decide +kernel
theorem dX7_resolve_15 : decode cX7_resolve 15 = .ok (.getfield 19, 3) := by decide +kernel
theorem dX7_resolve_18 : decode cX7_resolve 18 = .ok (.getfield 83, 3) := by decide +kernel
theorem dX7_resolve_21 : decode cX7_resolve 21 = .ok (.iload_n 1, 1) := by decide +kernel
theorem dX7_resolve_22 : decode cX7_resolve 22 = .ok (.invokevirtual 112, 3) := by decide +kernel
theorem dX7_resolve_25 : decode cX7_resolve 25 = .ok (.istore 4, 2) := by decide +kernel
theorem dX7_resolve_27 : decode cX7_resolve 27 = .ok (.aload_n 0, 1) := by decide +kernel
theorem dX7_resolve_28 : decode cX7_resolve 28 = .ok (.getfield 19, 3) := by decide +kernel
theorem dX7_resolve_31 : decode cX7_resolve 31 = .ok (.getfield 83, 3) := by decide +kernel
theorem dX7_resolve_34 : decode cX7_resolve 34 = .ok (.iload_n 2, 1) := by decide +kernel
theorem dX7_resolve_35 : decode cX7_resolve 35 = .ok (.invokevirtual 112, 3) := by decide +kernel
theorem dX7_resolve_38 : decode cX7_resolve 38 = .ok (.istore 5, 2) := by decide +kernel
theorem dX7_resolve_40 : decode cX7_resolve 40 = .ok (.iload 4, 2) := by decide +kernel
theorem dX7_resolve_42 : decode cX7_resolve 42 = .ok (.invokestatic 116, 3) := by decide +kernel
theorem dX7_resolve_45 : decode cX7_resolve 45 = .ok (.ifCond .ne 11, 3) := by decide +kernel
theorem dX7_resolve_48 : decode cX7_resolve 48 = .ok (.iload 5, 2) := by decide +kernel
theorem dX7_resolve_50 : decode cX7_resolve 50 = .ok (.invokestatic 116, 3) := by decide +kernel
theorem dX7_resolve_53 : decode cX7_resolve 53 = .ok (.ifCond .eq 13, 3) := by decide +kernel
theorem dX7_resolve_56 : decode cX7_resolve 56 = .ok (.new 68, 3) := by decide +kernel
theorem dX7_resolve_59 : decode cX7_resolve 59 = .ok (.dup, 1) := by decide +kernel
theorem dX7_resolve_60 : decode cX7_resolve 60 = .ok (.ldc 156, 2) := by decide +kernel
theorem dX7_resolve_62 : decode cX7_resolve 62 = .ok (.invokespecial 72, 3) := by decide +kernel
theorem dX7_resolve_65 : decode cX7_resolve 65 = .ok (.athrow, 1) := by decide +kernel
theorem dX7_resolve_66 : decode cX7_resolve 66 = .ok (.iconst 1, 1) := by decide +kernel
theorem dX7_resolve_67 : decode cX7_resolve 67 = .ok (.iload_n 3, 1) := by decide +kernel
theorem dX7_resolve_68 : decode cX7_resolve 68 = .ok (.ishl, 1) := by decide +kernel
theorem dX7_resolve_69 : decode cX7_resolve 69 = .ok (.istore 6, 2) := by decide +kernel
theorem dX7_resolve_71 : decode cX7_resolve 71 = .ok (.iload 4, 2) := by decide +kernel
theorem dX7_resolve_73 : decode cX7_resolve 73 = .ok (.invokestatic 120, 3) := by decide +kernel
theorem dX7_resolve_76 : decode cX7_resolve 76 = .ok (.iload 6, 2) := by decide +kernel
theorem dX7_resolve_78 : decode cX7_resolve 78 = .ok (.iand, 1) := by decide +kernel
theorem dX7_resolve_79 : decode cX7_resolve 79 = .ok (.ifCond .eq 14, 3) := by decide +kernel
theorem dX7_resolve_82 : decode cX7_resolve 82 = .ok (.iload 5, 2) := by decide +kernel
theorem dX7_resolve_84 : decode cX7_resolve 84 = .ok (.invokestatic 123, 3) := by decide +kernel
theorem dX7_resolve_87 : decode cX7_resolve 87 = .ok (.iload 6, 2) := by decide +kernel
theorem dX7_resolve_89 : decode cX7_resolve 89 = .ok (.iand, 1) := by decide +kernel
theorem dX7_resolve_90 : decode cX7_resolve 90 = .ok (.ifCond .ne 13, 3) := by decide +kernel
theorem dX7_resolve_93 : decode cX7_resolve 93 = .ok (.new 68, 3) := by decide +kernel
theorem dX7_resolve_96 : decode cX7_resolve 96 = .ok (.dup, 1) := by decide +kernel
theorem dX7_resolve_97 : decode cX7_resolve 97 = .ok (.ldc 158, 2) := by decide +kernel
theorem dX7_resolve_99 : decode cX7_resolve 99 = .ok (.invokespecial 72, 3) := by decide +kernel
theorem dX7_resolve_102 : decode cX7_resolve 102 = .ok (.athrow, 1) := by decide +kernel
theorem dX7_resolve_103 : decode cX7_resolve 103 = .ok (.iload 4, 2) := by decide +kernel
theorem dX7_resolve_105 : decode cX7_resolve 105 = .ok (.invokestatic 120, 3) := by decide +kernel
theorem dX7_resolve_108 : decode cX7_resolve 108 = .ok (.iload 5, 2) := by decide +kernel
theorem dX7_resolve_110 : decode cX7_resolve 110 = .ok (.invokestatic 120, 3) := by decide +kernel
theorem dX7_resolve_113 : decode cX7_resolve 113 = .ok (.ior, 1) := by decide +kernel
theorem dX7_resolve_114 : decode cX7_resolve 114 = .ok (.iload 6, 2) := by decide +kernel
theorem dX7_resolve_116 : decode cX7_resolve 116 = .ok (.iconst (-1), 1) := by decide +kernel
theorem dX7_resolve_117 : decode cX7_resolve 117 = .ok (.ixor, 1) := by decide +kernel
theorem dX7_resolve_118 : decode cX7_resolve 118 = .ok (.iand, 1) := by decide +kernel
theorem dX7_resolve_119 : decode cX7_resolve 119 = .ok (.istore 7, 2) := by decide +kernel
theorem dX7_resolve_121 : decode cX7_resolve 121 = .ok (.iload 4, 2) := by decide +kernel
theorem dX7_resolve_123 : decode cX7_resolve 123 = .ok (.invokestatic 123, 3) := by decide +kernel
theorem dX7_resolve_126 : decode cX7_resolve 126 = .ok (.iload 5, 2) := by decide +kernel
theorem dX7_resolve_128 : decode cX7_resolve 128 = .ok (.invokestatic 123, 3) := by decide +kernel
theorem dX7_resolve_131 : decode cX7_resolve 131 = .ok (.ior, 1) := by decide +kernel
theorem dX7_resolve_132 : decode cX7_resolve 132 = .ok (.iload 6, 2) := by decide +kernel
theorem dX7_resolve_134 : decode cX7_resolve 134 = .ok (.iconst (-1), 1) := by decide +kernel
theorem dX7_resolve_135 : decode cX7_resolve 135 = .ok (.ixor, 1) := by decide +kernel
theorem dX7_resolve_136 : decode cX7_resolve 136 = .ok (.iand, 1) := by decide +kernel
theorem dX7_resolve_137 : decode cX7_resolve 137 = .ok (.istore 8, 2) := by decide +kernel
theorem dX7_resolve_139 : decode cX7_resolve 139 = .ok (.iload 7, 2) := by decide +kernel
theorem dX7_resolve_141 : decode cX7_resolve 141 = .ok (.iload 8, 2) := by decide +kernel
theorem dX7_resolve_143 : decode cX7_resolve 143 = .ok (.iand, 1) := by decide +kernel
theorem dX7_resolve_144 : decode cX7_resolve 144 = .ok (.ifCond .eq 13, 3) := by decide +kernel
theorem dX7_resolve_147 : decode cX7_resolve 147 = .ok (.new 68, 3) := by decide +kernel
theorem dX7_resolve_150 : decode cX7_resolve 150 = .ok (.dup, 1) := by decide +kernel
theorem dX7_resolve_151 : decode cX7_resolve 151 = .ok (.ldc 160, 2) := by decide +kernel
theorem dX7_resolve_153 : decode cX7_resolve 153 = .ok (.invokespecial 72, 3) := by decide +kernel
theorem dX7_resolve_156 : decode cX7_resolve 156 = .ok (.athrow, 1) := by decide +kernel
theorem dX7_resolve_157 : decode cX7_resolve 157 = .ok (.aload_n 0, 1) := by decide +kernel
theorem dX7_resolve_158 : decode cX7_resolve 158 = .ok (.invokevirtual 130, 3) := by decide +kernel
theorem dX7_resolve_161 : decode cX7_resolve 161 = .ok (.aload_n 0, 1) := by decide +kernel
theorem dX7_resolve_162 : decode cX7_resolve 162 = .ok (.iload 7, 2) := by decide +kernel
theorem dX7_resolve_164 : decode cX7_resolve 164 = .ok (.iload 8, 2) := by decide +kernel
theorem dX7_resolve_166 : decode cX7_resolve 166 = .ok (.invokestatic 133, 3) := by decide +kernel
theorem dX7_resolve_169 : decode cX7_resolve 169 = .ok (.invokevirtual 137, 3) := by decide +kernel
theorem dX7_resolve_172 : decode cX7_resolve 172 = .ok (.ireturn, 1) := by decide +kernel
theorem dX7_sum_0 : decode cX7_sum 0 = .ok (.aload_n 0, 1) := by decide +kernel
theorem dX7_sum_1 : decode cX7_sum 1 = .ok (.iload_n 1, 1) := by decide +kernel
theorem dX7_sum_2 : decode cX7_sum 2 = .ok (.invokevirtual 109, 3) := by decide +kernel
theorem dX7_sum_5 : decode cX7_sum 5 = .ok (.aload_n 0, 1) := by decide +kernel
theorem dX7_sum_6 : decode cX7_sum 6 = .ok (.iload_n 2, 1) := by decide +kernel
theorem dX7_sum_7 : decode cX7_sum 7 = .ok (.invokevirtual 109, 3) := by decide +kernel
theorem dX7_sum_10 : decode cX7_sum 10 = .ok (.aload_n 0, 1) := by decide +kernel
theorem dX7_sum_11 : decode cX7_sum 11 = .ok (.getfield 19, 3) := by decide +kernel
theorem dX7_sum_14 : decode cX7_sum 14 = .ok (.getfield 83, 3) := by decide +kernel
theorem dX7_sum_17 : decode cX7_sum 17 = .ok (.iload_n 1, 1) := by decide +kernel
theorem dX7_sum_18 : decode cX7_sum 18 = .ok (.invokevirtual 112, 3) := by decide +kernel
theorem dX7_sum_21 : decode cX7_sum 21 = .ok (.istore_n 3, 1) := by decide +kernel
theorem dX7_sum_22 : decode cX7_sum 22 = .ok (.aload_n 0, 1) := by decide +kernel
theorem dX7_sum_23 : decode cX7_sum 23 = .ok (.getfield 19, 3) := by decide +kernel
theorem dX7_sum_26 : decode cX7_sum 26 = .ok (.getfield 83, 3) := by decide +kernel
theorem dX7_sum_29 : decode cX7_sum 29 = .ok (.iload_n 2, 1) := by decide +kernel
theorem dX7_sum_30 : decode cX7_sum 30 = .ok (.invokevirtual 112, 3) := by decide +kernel
theorem dX7_sum_33 : decode cX7_sum 33 = .ok (.istore 4, 2) := by decide +kernel
theorem dX7_sum_35 : decode cX7_sum 35 = .ok (.iload_n 3, 1) := by decide +kernel
theorem dX7_sum_36 : decode cX7_sum 36 = .ok (.invokestatic 116, 3) := by decide +kernel
theorem dX7_sum_39 : decode cX7_sum 39 = .ok (.ifCond .eq 11, 3) := by decide +kernel
theorem dX7_sum_42 : decode cX7_sum 42 = .ok (.iload 4, 2) := by decide +kernel
theorem dX7_sum_44 : decode cX7_sum 44 = .ok (.invokestatic 116, 3) := by decide +kernel
theorem dX7_sum_47 : decode cX7_sum 47 = .ok (.ifCond .ne 13, 3) := by decide +kernel
theorem dX7_sum_50 : decode cX7_sum 50 = .ok (.new 68, 3) := by decide +kernel
theorem dX7_sum_53 : decode cX7_sum 53 = .ok (.dup, 1) := by decide +kernel
theorem dX7_sum_54 : decode cX7_sum 54 = .ok (.ldc 162, 2) := by decide +kernel
theorem dX7_sum_56 : decode cX7_sum 56 = .ok (.invokespecial 72, 3) := by decide +kernel
theorem dX7_sum_59 : decode cX7_sum 59 = .ok (.athrow, 1) := by decide +kernel
theorem dX7_sum_60 : decode cX7_sum 60 = .ok (.aload_n 0, 1) := by decide +kernel
theorem dX7_sum_61 : decode cX7_sum 61 = .ok (.invokevirtual 130, 3) := by decide +kernel
theorem dX7_sum_64 : decode cX7_sum 64 = .ok (.iload_n 3, 1) := by decide +kernel
theorem dX7_sum_65 : decode cX7_sum 65 = .ok (.invokestatic 120, 3) := by decide +kernel
theorem dX7_sum_68 : decode cX7_sum 68 = .ok (.iload 4, 2) := by decide +kernel
theorem dX7_sum_70 : decode cX7_sum 70 = .ok (.invokestatic 120, 3) := by decide +kernel
theorem dX7_sum_73 : decode cX7_sum 73 = .ok (.ixor, 1) := by decide +kernel
theorem dX7_sum_74 : decode cX7_sum 74 = .ok (.istore 5, 2) := by decide +kernel
theorem dX7_sum_76 : decode cX7_sum 76 = .ok (.iload_n 3, 1) := by decide +kernel
theorem dX7_sum_77 : decode cX7_sum 77 = .ok (.invokestatic 123, 3) := by decide +kernel
theorem dX7_sum_80 : decode cX7_sum 80 = .ok (.iload 4, 2) := by decide +kernel
theorem dX7_sum_82 : decode cX7_sum 82 = .ok (.invokestatic 123, 3) := by decide +kernel
theorem dX7_sum_85 : decode cX7_sum 85 = .ok (.ixor, 1) := by decide +kernel
theorem dX7_sum_86 : decode cX7_sum 86 = .ok (.istore 6, 2) := by decide +kernel
theorem dX7_sum_88 : decode cX7_sum 88 = .ok (.aload_n 0, 1) := by decide +kernel
theorem dX7_sum_89 : decode cX7_sum 89 = .ok (.iload 5, 2) := by decide +kernel
theorem dX7_sum_91 : decode cX7_sum 91 = .ok (.iload 6, 2) := by decide +kernel
theorem dX7_sum_93 : decode cX7_sum 93 = .ok (.invokestatic 143, 3) := by decide +kernel
theorem dX7_sum_96 : decode cX7_sum 96 = .ok (.invokevirtual 137, 3) := by decide +kernel
theorem dX7_sum_99 : decode cX7_sum 99 = .ok (.ireturn, 1) := by decide +kernel
theorem dX7_decide_0 : decode cX7_decide 0 = .ok (.iload_n 1, 1) := by decide +kernel
theorem dX7_decide_1 : decode cX7_decide 1 = .ok (.ifCond .lt 9, 3) := by decide +kernel
theorem dX7_decide_4 : decode cX7_decide 4 = .ok (.iload_n 1, 1) := by decide +kernel
theorem dX7_decide_5 : decode cX7_decide 5 = .ok (.bipush 16, 2) := by decide +kernel
theorem dX7_decide_7 : decode cX7_decide 7 = .ok (.if_icmp .lt 13, 3) := by decide +kernel
theorem dX7_decide_10 : decode cX7_decide 10 = .ok (.new 164, 3) := by decide +kernel
theorem dX7_decide_13 : decode cX7_decide 13 = .ok (.dup, 1) := by decide +kernel
theorem dX7_decide_14 : decode cX7_decide 14 = .ok (.ldc 166, 2) := by decide +kernel
theorem dX7_decide_16 : decode cX7_decide 16 = .ok (.invokespecial 168, 3) := by decide +kernel
theorem dX7_decide_19 : decode cX7_decide 19 = .ok (.athrow, 1) := by decide +kernel
theorem dX7_decide_20 : decode cX7_decide 20 = .ok (.aload_n 0, 1) := by decide +kernel
theorem dX7_decide_21 : decode cX7_decide 21 = .ok (.getfield 26, 3) := by decide +kernel
theorem dX7_decide_24 : decode cX7_decide 24 = .ok (.getfield 169, 3) := by decide +kernel
theorem dX7_decide_27 : decode cX7_decide 27 = .ok (.bipush (-9), 2) := by decide +kernel
theorem dX7_decide_29 : decode cX7_decide 29 = .ok (.if_icmp .eq 13, 3) := by decide +kernel
theorem dX7_decide_32 : decode cX7_decide 32 = .ok (.new 68, 3) := by decide +kernel
theorem dX7_decide_35 : decode cX7_decide 35 = .ok (.dup, 1) := by decide +kernel
theorem dX7_decide_36 : decode cX7_decide 36 = .ok (.ldc 172, 2) := by decide +kernel
theorem dX7_decide_38 : decode cX7_decide 38 = .ok (.invokespecial 72, 3) := by decide +kernel
theorem dX7_decide_41 : decode cX7_decide 41 = .ok (.athrow, 1) := by decide +kernel
theorem dX7_decide_42 : decode cX7_decide 42 = .ok (.aload_n 0, 1) := by decide +kernel
theorem dX7_decide_43 : decode cX7_decide 43 = .ok (.getfield 26, 3) := by decide +kernel
theorem dX7_decide_46 : decode cX7_decide 46 = .ok (.iload_n 1, 1) := by decide +kernel
theorem dX7_decide_47 : decode cX7_decide 47 = .ok (.invokestatic 174, 3) := by decide +kernel
theorem dX7_decide_50 : decode cX7_decide 50 = .ok (.invokevirtual 177, 3) := by decide +kernel
theorem dX7_decide_53 : decode cX7_decide 53 = .ok (.ifCond .eq 13, 3) := by decide +kernel
theorem dX7_decide_56 : decode cX7_decide 56 = .ok (.new 68, 3) := by decide +kernel
theorem dX7_decide_59 : decode cX7_decide 59 = .ok (.dup, 1) := by decide +kernel
theorem dX7_decide_60 : decode cX7_decide 60 = .ok (.ldc 180, 2) := by decide +kernel
theorem dX7_decide_62 : decode cX7_decide 62 = .ok (.invokespecial 72, 3) := by decide +kernel
theorem dX7_decide_65 : decode cX7_decide 65 = .ok (.athrow, 1) := by decide +kernel
theorem dX7_decide_66 : decode cX7_decide 66 = .ok (.aload_n 0, 1) := by decide +kernel
theorem dX7_decide_67 : decode cX7_decide 67 = .ok (.getfield 33, 3) := by decide +kernel
theorem dX7_decide_70 : decode cX7_decide 70 = .ok (.aload_n 0, 1) := by decide +kernel
theorem dX7_decide_71 : decode cX7_decide 71 = .ok (.getfield 19, 3) := by decide +kernel
theorem dX7_decide_74 : decode cX7_decide 74 = .ok (.invokevirtual 146, 3) := by decide +kernel
theorem dX7_decide_77 : decode cX7_decide 77 = .ok (.aload_n 0, 1) := by decide +kernel
theorem dX7_decide_78 : decode cX7_decide 78 = .ok (.getfield 19, 3) := by decide +kernel
theorem dX7_decide_81 : decode cX7_decide 81 = .ok (.iload_n 1, 1) := by decide +kernel
theorem dX7_decide_82 : decode cX7_decide 82 = .ok (.invokevirtual 182, 3) := by decide +kernel
theorem dX7_decide_85 : decode cX7_decide 85 = .ok (.aload_n 0, 1) := by decide +kernel
theorem dX7_decide_86 : decode cX7_decide 86 = .ok (.invokevirtual 103, 3) := by decide +kernel
theorem dX7_decide_89 : decode cX7_decide 89 = .ok (.aload_n 0, 1) := by decide +kernel
theorem dX7_decide_90 : decode cX7_decide 90 = .ok (.getfield 26, 3) := by decide +kernel
theorem dX7_decide_93 : decode cX7_decide 93 = .ok (.getfield 185, 3) := by decide +kernel
theorem dX7_decide_96 : decode cX7_decide 96 = .ok (.ireturn, 1) := by decide +kernel
theorem dX7_backtrack_0 : decode cX7_backtrack 0 = .ok (.iload_n 1, 1) := by decide +kernel
theorem dX7_backtrack_1 : decode cX7_backtrack 1 = .ok (.ifCond .lt 14, 3) := by decide +kernel
theorem dX7_backtrack_4 : decode cX7_backtrack 4 = .ok (.iload_n 1, 1) := by decide +kernel
theorem dX7_backtrack_5 : decode cX7_backtrack 5 = .ok (.aload_n 0, 1) := by decide +kernel
theorem dX7_backtrack_6 : decode cX7_backtrack 6 = .ok (.getfield 19, 3) := by decide +kernel
theorem dX7_backtrack_9 : decode cX7_backtrack 9 = .ok (.getfield 186, 3) := by decide +kernel
theorem dX7_backtrack_12 : decode cX7_backtrack 12 = .ok (.if_icmp .le 13, 3) := by decide +kernel
theorem dX7_backtrack_15 : decode cX7_backtrack 15 = .ok (.new 57, 3) := by decide +kernel
theorem dX7_backtrack_18 : decode cX7_backtrack 18 = .ok (.dup, 1) := by decide +kernel
theorem dX7_backtrack_19 : decode cX7_backtrack 19 = .ok (.ldc 189, 2) := by decide +kernel
theorem dX7_backtrack_21 : decode cX7_backtrack 21 = .ok (.invokespecial 61, 3) := by decide +kernel
theorem dX7_backtrack_24 : decode cX7_backtrack 24 = .ok (.athrow, 1) := by decide +kernel
theorem dX7_backtrack_25 : decode cX7_backtrack 25 = .ok (.aload_n 0, 1) := by decide +kernel
theorem dX7_backtrack_26 : decode cX7_backtrack 26 = .ok (.getfield 33, 3) := by decide +kernel
theorem dX7_backtrack_29 : decode cX7_backtrack 29 = .ok (.aload_n 0, 1) := by decide +kernel
theorem dX7_backtrack_30 : decode cX7_backtrack 30 = .ok (.getfield 19, 3) := by decide +kernel
theorem dX7_backtrack_33 : decode cX7_backtrack 33 = .ok (.invokevirtual 146, 3) := by decide +kernel
theorem dX7_backtrack_36 : decode cX7_backtrack 36 = .ok (.aload_n 0, 1) := by decide +kernel
theorem dX7_backtrack_37 : decode cX7_backtrack 37 = .ok (.getfield 19, 3) := by decide +kernel
theorem dX7_backtrack_40 : decode cX7_backtrack 40 = .ok (.iload_n 1, 1) := by decide +kernel
theorem dX7_backtrack_41 : decode cX7_backtrack 41 = .ok (.invokevirtual 94, 3) := by decide +kernel
theorem dX7_backtrack_44 : decode cX7_backtrack 44 = .ok (.aload_n 0, 1) := by decide +kernel
theorem dX7_backtrack_45 : decode cX7_backtrack 45 = .ok (.invokevirtual 103, 3) := by decide +kernel
theorem dX7_backtrack_48 : decode cX7_backtrack 48 = .ok (.aload_n 0, 1) := by decide +kernel
theorem dX7_backtrack_49 : decode cX7_backtrack 49 = .ok (.getfield 26, 3) := by decide +kernel
theorem dX7_backtrack_52 : decode cX7_backtrack 52 = .ok (.getfield 185, 3) := by decide +kernel
theorem dX7_backtrack_55 : decode cX7_backtrack 55 = .ok (.ireturn, 1) := by decide +kernel
theorem dX7_learn_0 : decode cX7_learn 0 = .ok (.aload_n 0, 1) := by decide +kernel
theorem dX7_learn_1 : decode cX7_learn 1 = .ok (.invokevirtual 191, 3) := by decide +kernel
theorem dX7_learn_4 : decode cX7_learn 4 = .ok (.aload_n 0, 1) := by decide +kernel
theorem dX7_learn_5 : decode cX7_learn 5 = .ok (.invokevirtual 130, 3) := by decide +kernel
theorem dX7_learn_8 : decode cX7_learn 8 = .ok (.aload_n 0, 1) := by decide +kernel
theorem dX7_learn_9 : decode cX7_learn 9 = .ok (.getfield 33, 3) := by decide +kernel
theorem dX7_learn_12 : decode cX7_learn 12 = .ok (.aload_n 0, 1) := by decide +kernel
theorem dX7_learn_13 : decode cX7_learn 13 = .ok (.getfield 19, 3) := by decide +kernel
theorem dX7_learn_16 : decode cX7_learn 16 = .ok (.invokevirtual 146, 3) := by decide +kernel
theorem dX7_learn_19 : decode cX7_learn 19 = .ok (.aload_n 0, 1) := by decide +kernel
theorem dX7_learn_20 : decode cX7_learn 20 = .ok (.getfield 19, 3) := by decide +kernel
theorem dX7_learn_23 : decode cX7_learn 23 = .ok (.aload_n 0, 1) := by decide +kernel
theorem dX7_learn_24 : decode cX7_learn 24 = .ok (.getfield 26, 3) := by decide +kernel
theorem dX7_learn_27 : decode cX7_learn 27 = .ok (.invokestatic 194, 3) := by decide +kernel
theorem dX7_learn_30 : decode cX7_learn 30 = .ok (.istore_n 1, 1) := by decide +kernel
theorem dX7_learn_31 : decode cX7_learn 31 = .ok (.aload_n 0, 1) := by decide +kernel
theorem dX7_learn_32 : decode cX7_learn 32 = .ok (.invokevirtual 103, 3) := by decide +kernel
theorem dX7_learn_35 : decode cX7_learn 35 = .ok (.iload_n 1, 1) := by decide +kernel
theorem dX7_learn_36 : decode cX7_learn 36 = .ok (.ireturn, 1) := by decide +kernel
theorem dX7_undo_0 : decode cX7_undo 0 = .ok (.aload_n 0, 1) := by decide +kernel
theorem dX7_undo_1 : decode cX7_undo 1 = .ok (.getfield 33, 3) := by decide +kernel
theorem dX7_undo_4 : decode cX7_undo 4 = .ok (.getfield 198, 3) := by decide +kernel
theorem dX7_undo_7 : decode cX7_undo 7 = .ok (.ifCond .ne 13, 3) := by decide +kernel
theorem dX7_undo_10 : decode cX7_undo 10 = .ok (.new 68, 3) := by decide +kernel
theorem dX7_undo_13 : decode cX7_undo 13 = .ok (.dup, 1) := by decide +kernel
theorem dX7_undo_14 : decode cX7_undo 14 = .ok (.ldc 201, 2) := by decide +kernel
theorem dX7_undo_16 : decode cX7_undo 16 = .ok (.invokespecial 72, 3) := by decide +kernel
theorem dX7_undo_19 : decode cX7_undo 19 = .ok (.athrow, 1) := by decide +kernel
theorem dX7_undo_20 : decode cX7_undo 20 = .ok (.aload_n 0, 1) := by decide +kernel
theorem dX7_undo_21 : decode cX7_undo 21 = .ok (.getfield 33, 3) := by decide +kernel
theorem dX7_undo_24 : decode cX7_undo 24 = .ok (.aload_n 0, 1) := by decide +kernel
theorem dX7_undo_25 : decode cX7_undo 25 = .ok (.getfield 19, 3) := by decide +kernel
theorem dX7_undo_28 : decode cX7_undo 28 = .ok (.invokevirtual 203, 3) := by decide +kernel
theorem dX7_undo_31 : decode cX7_undo 31 = .ok (.aload_n 0, 1) := by decide +kernel
theorem dX7_undo_32 : decode cX7_undo 32 = .ok (.invokevirtual 103, 3) := by decide +kernel
theorem dX7_undo_35 : decode cX7_undo 35 = .ok (.aload_n 0, 1) := by decide +kernel
theorem dX7_undo_36 : decode cX7_undo 36 = .ok (.getfield 33, 3) := by decide +kernel
theorem dX7_undo_39 : decode cX7_undo 39 = .ok (.getfield 198, 3) := by decide +kernel
theorem dX7_undo_42 : decode cX7_undo 42 = .ok (.ireturn, 1) := by decide +kernel
theorem dX7_level_0 : decode cX7_level 0 = .ok (.aload_n 0, 1) := by decide +kernel
theorem dX7_level_1 : decode cX7_level 1 = .ok (.getfield 19, 3) := by decide +kernel
theorem dX7_level_4 : decode cX7_level 4 = .ok (.getfield 186, 3) := by decide +kernel
theorem dX7_level_7 : decode cX7_level 7 = .ok (.ireturn, 1) := by decide +kernel
theorem dX7_value_0 : decode cX7_value 0 = .ok (.iload_n 1, 1) := by decide +kernel
theorem dX7_value_1 : decode cX7_value 1 = .ok (.invokestatic 153, 3) := by decide +kernel
theorem dX7_value_4 : decode cX7_value 4 = .ok (.aload_n 0, 1) := by decide +kernel
theorem dX7_value_5 : decode cX7_value 5 = .ok (.getfield 26, 3) := by decide +kernel
theorem dX7_value_8 : decode cX7_value 8 = .ok (.iload_n 1, 1) := by decide +kernel
theorem dX7_value_9 : decode cX7_value 9 = .ok (.invokevirtual 177, 3) := by decide +kernel
theorem dX7_value_12 : decode cX7_value 12 = .ok (.ifCond .ne 5, 3) := by decide +kernel
theorem dX7_value_15 : decode cX7_value 15 = .ok (.iconst 2, 1) := by decide +kernel
theorem dX7_value_16 : decode cX7_value 16 = .ok (.ireturn, 1) := by decide +kernel
theorem dX7_value_17 : decode cX7_value 17 = .ok (.aload_n 0, 1) := by decide +kernel
theorem dX7_value_18 : decode cX7_value 18 = .ok (.getfield 26, 3) := by decide +kernel
theorem dX7_value_21 : decode cX7_value 21 = .ok (.iload_n 1, 1) := by decide +kernel
theorem dX7_value_22 : decode cX7_value 22 = .ok (.invokevirtual 206, 3) := by decide +kernel
theorem dX7_value_25 : decode cX7_value 25 = .ok (.ifCond .eq 7, 3) := by decide +kernel
theorem dX7_value_28 : decode cX7_value 28 = .ok (.iconst 1, 1) := by decide +kernel
theorem dX7_value_29 : decode cX7_value 29 = .ok (.goto 4, 3) := by decide +kernel
theorem dX7_value_32 : decode cX7_value 32 = .ok (.iconst 0, 1) := by decide +kernel
theorem dX7_value_33 : decode cX7_value 33 = .ok (.ireturn, 1) := by decide +kernel
theorem dX7_trailLiteral_0 : decode cX7_trailLiteral 0 = .ok (.iload_n 1, 1) := by decide +kernel
theorem dX7_trailLiteral_1 : decode cX7_trailLiteral 1 = .ok (.ifCond .lt 14, 3) := by decide +kernel
theorem dX7_trailLiteral_4 : decode cX7_trailLiteral 4 = .ok (.iload_n 1, 1) := by decide +kernel
theorem dX7_trailLiteral_5 : decode cX7_trailLiteral 5 = .ok (.aload_n 0, 1) := by decide +kernel
theorem dX7_trailLiteral_6 : decode cX7_trailLiteral 6 = .ok (.getfield 26, 3) := by decide +kernel
theorem dX7_trailLiteral_9 : decode cX7_trailLiteral 9 = .ok (.getfield 185, 3) := by decide +kernel
theorem dX7_trailLiteral_12 : decode cX7_trailLiteral 12 = .ok (.if_icmp .lt 13, 3) := by decide +kernel
theorem dX7_trailLiteral_15 : decode cX7_trailLiteral 15 = .ok (.new 164, 3) := by decide +kernel
theorem dX7_trailLiteral_18 : decode cX7_trailLiteral 18 = .ok (.dup, 1) := by decide +kernel
theorem dX7_trailLiteral_19 : decode cX7_trailLiteral 19 = .ok (.ldc 209, 2) := by decide +kernel
theorem dX7_trailLiteral_21 : decode cX7_trailLiteral 21 = .ok (.invokespecial 168, 3) := by decide +kernel
theorem dX7_trailLiteral_24 : decode cX7_trailLiteral 24 = .ok (.athrow, 1) := by decide +kernel
theorem dX7_trailLiteral_25 : decode cX7_trailLiteral 25 = .ok (.aload_n 0, 1) := by decide +kernel
theorem dX7_trailLiteral_26 : decode cX7_trailLiteral 26 = .ok (.getfield 26, 3) := by decide +kernel
theorem dX7_trailLiteral_29 : decode cX7_trailLiteral 29 = .ok (.iload_n 1, 1) := by decide +kernel
theorem dX7_trailLiteral_30 : decode cX7_trailLiteral 30 = .ok (.invokevirtual 211, 3) := by decide +kernel
theorem dX7_trailLiteral_33 : decode cX7_trailLiteral 33 = .ok (.ireturn, 1) := by decide +kernel
theorem dX7_reason_0 : decode cX7_reason 0 = .ok (.iload_n 1, 1) := by decide +kernel
theorem dX7_reason_1 : decode cX7_reason 1 = .ok (.invokestatic 153, 3) := by decide +kernel
theorem dX7_reason_4 : decode cX7_reason 4 = .ok (.aload_n 0, 1) := by decide +kernel
theorem dX7_reason_5 : decode cX7_reason 5 = .ok (.getfield 26, 3) := by decide +kernel
theorem dX7_reason_8 : decode cX7_reason 8 = .ok (.iload_n 1, 1) := by decide +kernel
theorem dX7_reason_9 : decode cX7_reason 9 = .ok (.invokevirtual 214, 3) := by decide +kernel
theorem dX7_reason_12 : decode cX7_reason 12 = .ok (.ireturn, 1) := by decide +kernel
theorem dX7_conflict_0 : decode cX7_conflict 0 = .ok (.aload_n 0, 1) := by decide +kernel
theorem dX7_conflict_1 : decode cX7_conflict 1 = .ok (.getfield 26, 3) := by decide +kernel
theorem dX7_conflict_4 : decode cX7_conflict 4 = .ok (.getfield 169, 3) := by decide +kernel
theorem dX7_conflict_7 : decode cX7_conflict 7 = .ok (.ireturn, 1) := by decide +kernel
theorem dX7_learnedClause_0 : decode cX7_learnedClause 0 = .ok (.aload_n 0, 1) := by decide +kernel
theorem dX7_learnedClause_1 : decode cX7_learnedClause 1 = .ok (.invokevirtual 191, 3) := by decide +kernel
theorem dX7_learnedClause_4 : decode cX7_learnedClause 4 = .ok (.aload_n 0, 1) := by decide +kernel
theorem dX7_learnedClause_5 : decode cX7_learnedClause 5 = .ok (.getfield 26, 3) := by decide +kernel
theorem dX7_learnedClause_8 : decode cX7_learnedClause 8 = .ok (.aload_n 0, 1) := by decide +kernel
theorem dX7_learnedClause_9 : decode cX7_learnedClause 9 = .ok (.getfield 26, 3) := by decide +kernel
theorem dX7_learnedClause_12 : decode cX7_learnedClause 12 = .ok (.aload_n 0, 1) := by decide +kernel
theorem dX7_learnedClause_13 : decode cX7_learnedClause 13 = .ok (.getfield 19, 3) := by decide +kernel
theorem dX7_learnedClause_16 : decode cX7_learnedClause 16 = .ok (.getfield 83, 3) := by decide +kernel
theorem dX7_learnedClause_19 : decode cX7_learnedClause 19 = .ok (.invokevirtual 217, 3) := by decide +kernel
theorem dX7_learnedClause_22 : decode cX7_learnedClause 22 = .ok (.invokevirtual 221, 3) := by decide +kernel
theorem dX7_learnedClause_25 : decode cX7_learnedClause 25 = .ok (.ireturn, 1) := by decide +kernel
theorem dX7_modelCount_0 : decode cX7_modelCount 0 = .ok (.aload_n 0, 1) := by decide +kernel
theorem dX7_modelCount_1 : decode cX7_modelCount 1 = .ok (.getfield 40, 3) := by decide +kernel
theorem dX7_modelCount_4 : decode cX7_modelCount 4 = .ok (.aload_n 0, 1) := by decide +kernel
theorem dX7_modelCount_5 : decode cX7_modelCount 5 = .ok (.getfield 19, 3) := by decide +kernel
theorem dX7_modelCount_8 : decode cX7_modelCount 8 = .ok (.getfield 83, 3) := by decide +kernel
theorem dX7_modelCount_11 : decode cX7_modelCount 11 = .ok (.invokevirtual 224, 3) := by decide +kernel
theorem dX7_modelCount_14 : decode cX7_modelCount 14 = .ok (.aload_n 0, 1) := by decide +kernel
theorem dX7_modelCount_15 : decode cX7_modelCount 15 = .ok (.getfield 40, 3) := by decide +kernel
theorem dX7_modelCount_18 : decode cX7_modelCount 18 = .ok (.invokevirtual 227, 3) := by decide +kernel
theorem dX7_modelCount_21 : decode cX7_modelCount 21 = .ok (.ireturn, 1) := by decide +kernel
theorem dX7_model_0 : decode cX7_model 0 = .ok (.aload_n 0, 1) := by decide +kernel
theorem dX7_model_1 : decode cX7_model 1 = .ok (.getfield 40, 3) := by decide +kernel
theorem dX7_model_4 : decode cX7_model 4 = .ok (.aload_n 0, 1) := by decide +kernel
theorem dX7_model_5 : decode cX7_model 5 = .ok (.getfield 19, 3) := by decide +kernel
theorem dX7_model_8 : decode cX7_model 8 = .ok (.getfield 83, 3) := by decide +kernel
theorem dX7_model_11 : decode cX7_model 11 = .ok (.invokevirtual 224, 3) := by decide +kernel
theorem dX7_model_14 : decode cX7_model 14 = .ok (.aload_n 0, 1) := by decide +kernel
theorem dX7_model_15 : decode cX7_model 15 = .ok (.getfield 40, 3) := by decide +kernel
theorem dX7_model_18 : decode cX7_model 18 = .ok (.iload_n 1, 1) := by decide +kernel
theorem dX7_model_19 : decode cX7_model 19 = .ok (.invokevirtual 230, 3) := by decide +kernel
theorem dX7_model_22 : decode cX7_model 22 = .ok (.ireturn, 1) := by decide +kernel
theorem dX7_impliesClause_0 : decode cX7_impliesClause 0 = .ok (.iload_n 1, 1) := by decide +kernel
theorem dX7_impliesClause_1 : decode cX7_impliesClause 1 = .ok (.iload_n 2, 1) := by decide +kernel
theorem dX7_impliesClause_2 : decode cX7_impliesClause 2 = .ok (.invokestatic 126, 3) := by decide +kernel
theorem dX7_impliesClause_5 : decode cX7_impliesClause 5 = .ok (.aload_n 0, 1) := by decide +kernel
theorem dX7_impliesClause_6 : decode cX7_impliesClause 6 = .ok (.getfield 40, 3) := by decide +kernel
theorem dX7_impliesClause_9 : decode cX7_impliesClause 9 = .ok (.aload_n 0, 1) := by decide +kernel
theorem dX7_impliesClause_10 : decode cX7_impliesClause 10 = .ok (.getfield 19, 3) := by decide +kernel
theorem dX7_impliesClause_13 : decode cX7_impliesClause 13 = .ok (.getfield 83, 3) := by decide +kernel
theorem dX7_impliesClause_16 : decode cX7_impliesClause 16 = .ok (.invokevirtual 224, 3) := by decide +kernel
theorem dX7_impliesClause_19 : decode cX7_impliesClause 19 = .ok (.aload_n 0, 1) := by decide +kernel
theorem dX7_impliesClause_20 : decode cX7_impliesClause 20 = .ok (.getfield 40, 3) := by decide +kernel
theorem dX7_impliesClause_23 : decode cX7_impliesClause 23 = .ok (.iload_n 1, 1) := by decide +kernel
theorem dX7_impliesClause_24 : decode cX7_impliesClause 24 = .ok (.iload_n 2, 1) := by decide +kernel
theorem dX7_impliesClause_25 : decode cX7_impliesClause 25 = .ok (.invokestatic 133, 3) := by decide +kernel
theorem dX7_impliesClause_28 : decode cX7_impliesClause 28 = .ok (.invokevirtual 233, 3) := by decide +kernel
theorem dX7_impliesClause_31 : decode cX7_impliesClause 31 = .ok (.ireturn, 1) := by decide +kernel
theorem dX7_impliesParity_0 : decode cX7_impliesParity 0 = .ok (.iload_n 1, 1) := by decide +kernel
theorem dX7_impliesParity_1 : decode cX7_impliesParity 1 = .ok (.iload_n 2, 1) := by decide +kernel
theorem dX7_impliesParity_2 : decode cX7_impliesParity 2 = .ok (.invokestatic 140, 3) := by decide +kernel
theorem dX7_impliesParity_5 : decode cX7_impliesParity 5 = .ok (.aload_n 0, 1) := by decide +kernel
theorem dX7_impliesParity_6 : decode cX7_impliesParity 6 = .ok (.getfield 40, 3) := by decide +kernel
theorem dX7_impliesParity_9 : decode cX7_impliesParity 9 = .ok (.aload_n 0, 1) := by decide +kernel
theorem dX7_impliesParity_10 : decode cX7_impliesParity 10 = .ok (.getfield 19, 3) := by decide +kernel
theorem dX7_impliesParity_13 : decode cX7_impliesParity 13 = .ok (.getfield 83, 3) := by decide +kernel
theorem dX7_impliesParity_16 : decode cX7_impliesParity 16 = .ok (.invokevirtual 224, 3) := by decide +kernel
theorem dX7_impliesParity_19 : decode cX7_impliesParity 19 = .ok (.aload_n 0, 1) := by decide +kernel
theorem dX7_impliesParity_20 : decode cX7_impliesParity 20 = .ok (.getfield 40, 3) := by decide +kernel
theorem dX7_impliesParity_23 : decode cX7_impliesParity 23 = .ok (.iload_n 1, 1) := by decide +kernel
theorem dX7_impliesParity_24 : decode cX7_impliesParity 24 = .ok (.iload_n 2, 1) := by decide +kernel
theorem dX7_impliesParity_25 : decode cX7_impliesParity 25 = .ok (.invokestatic 143, 3) := by decide +kernel
theorem dX7_impliesParity_28 : decode cX7_impliesParity 28 = .ok (.invokevirtual 233, 3) := by decide +kernel
theorem dX7_impliesParity_31 : decode cX7_impliesParity 31 = .ok (.ireturn, 1) := by decide +kernel
theorem dX7_core_0 : decode cX7_core 0 = .ok (.aload_n 0, 1) := by decide +kernel
theorem dX7_core_1 : decode cX7_core 1 = .ok (.getfield 40, 3) := by decide +kernel
theorem dX7_core_4 : decode cX7_core 4 = .ok (.aload_n 0, 1) := by decide +kernel
theorem dX7_core_5 : decode cX7_core 5 = .ok (.getfield 19, 3) := by decide +kernel
theorem dX7_core_8 : decode cX7_core 8 = .ok (.getfield 83, 3) := by decide +kernel
theorem dX7_core_11 : decode cX7_core 11 = .ok (.invokevirtual 224, 3) := by decide +kernel
theorem dX7_core_14 : decode cX7_core 14 = .ok (.iconst 1, 1) := by decide +kernel
theorem dX7_core_15 : decode cX7_core 15 = .ok (.aload_n 0, 1) := by decide +kernel
theorem dX7_core_16 : decode cX7_core 16 = .ok (.getfield 19, 3) := by decide +kernel
theorem dX7_core_19 : decode cX7_core 19 = .ok (.getfield 83, 3) := by decide +kernel
theorem dX7_core_22 : decode cX7_core 22 = .ok (.getfield 106, 3) := by decide +kernel
theorem dX7_core_25 : decode cX7_core 25 = .ok (.ishl, 1) := by decide +kernel
theorem dX7_core_26 : decode cX7_core 26 = .ok (.iconst 1, 1) := by decide +kernel
theorem dX7_core_27 : decode cX7_core 27 = .ok (.isub, 1) := by decide +kernel
theorem dX7_core_28 : decode cX7_core 28 = .ok (.istore_n 1, 1) := by decide +kernel
theorem dX7_core_29 : decode cX7_core 29 = .ok (.aload_n 0, 1) := by decide +kernel
theorem dX7_core_30 : decode cX7_core 30 = .ok (.getfield 40, 3) := by decide +kernel
theorem dX7_core_33 : decode cX7_core 33 = .ok (.iload_n 1, 1) := by decide +kernel
theorem dX7_core_34 : decode cX7_core 34 = .ok (.invokevirtual 236, 3) := by decide +kernel
theorem dX7_core_37 : decode cX7_core 37 = .ok (.ifCond .eq 6, 3) := by decide +kernel
theorem dX7_core_40 : decode cX7_core 40 = .ok (.bipush (-9), 2) := by decide +kernel
theorem dX7_core_42 : decode cX7_core 42 = .ok (.ireturn, 1) := by decide +kernel
theorem dX7_core_43 : decode cX7_core 43 = .ok (.iconst 0, 1) := by decide +kernel
theorem dX7_core_44 : decode cX7_core 44 = .ok (.istore_n 2, 1) := by decide +kernel
theorem dX7_core_45 : decode cX7_core 45 = .ok (.iload_n 2, 1) := by decide +kernel
theorem dX7_core_46 : decode cX7_core 46 = .ok (.aload_n 0, 1) := by decide +kernel
theorem dX7_core_47 : decode cX7_core 47 = .ok (.getfield 19, 3) := by decide +kernel
theorem dX7_core_50 : decode cX7_core 50 = .ok (.getfield 83, 3) := by decide +kernel
theorem dX7_core_53 : decode cX7_core 53 = .ok (.getfield 106, 3) := by decide +kernel
theorem dX7_core_56 : decode cX7_core 56 = .ok (.if_icmp .ge 30, 3) := by decide +kernel
theorem dX7_core_59 : decode cX7_core 59 = .ok (.iload_n 1, 1) := by decide +kernel
theorem dX7_core_60 : decode cX7_core 60 = .ok (.iconst 1, 1) := by decide +kernel
theorem dX7_core_61 : decode cX7_core 61 = .ok (.iload_n 2, 1) := by decide +kernel
theorem dX7_core_62 : decode cX7_core 62 = .ok (.ishl, 1) := by decide +kernel
theorem dX7_core_63 : decode cX7_core 63 = .ok (.iconst (-1), 1) := by decide +kernel
theorem dX7_core_64 : decode cX7_core 64 = .ok (.ixor, 1) := by decide +kernel
theorem dX7_core_65 : decode cX7_core 65 = .ok (.iand, 1) := by decide +kernel
theorem dX7_core_66 : decode cX7_core 66 = .ok (.istore_n 3, 1) := by decide +kernel
theorem dX7_core_67 : decode cX7_core 67 = .ok (.aload_n 0, 1) := by decide +kernel
theorem dX7_core_68 : decode cX7_core 68 = .ok (.getfield 40, 3) := by decide +kernel
theorem dX7_core_71 : decode cX7_core 71 = .ok (.iload_n 3, 1) := by decide +kernel
theorem dX7_core_72 : decode cX7_core 72 = .ok (.invokevirtual 236, 3) := by decide +kernel
theorem dX7_core_75 : decode cX7_core 75 = .ok (.ifCond .ne 5, 3) := by decide +kernel
theorem dX7_core_78 : decode cX7_core 78 = .ok (.iload_n 3, 1) := by decide +kernel
theorem dX7_core_79 : decode cX7_core 79 = .ok (.istore_n 1, 1) := by decide +kernel
theorem dX7_core_80 : decode cX7_core 80 = .ok (.iinc 2 1, 3) := by decide +kernel
theorem dX7_core_83 : decode cX7_core 83 = .ok (.goto (-38), 3) := by decide +kernel
theorem dX7_core_86 : decode cX7_core 86 = .ok (.iload_n 1, 1) := by decide +kernel
theorem dX7_core_87 : decode cX7_core 87 = .ok (.ireturn, 1) := by decide +kernel
theorem dX7_rank_0 : decode cX7_rank 0 = .ok (.aload_n 0, 1) := by decide +kernel
theorem dX7_rank_1 : decode cX7_rank 1 = .ok (.getfield 47, 3) := by decide +kernel
theorem dX7_rank_4 : decode cX7_rank 4 = .ok (.aload_n 0, 1) := by decide +kernel
theorem dX7_rank_5 : decode cX7_rank 5 = .ok (.getfield 19, 3) := by decide +kernel
theorem dX7_rank_8 : decode cX7_rank 8 = .ok (.getfield 83, 3) := by decide +kernel
theorem dX7_rank_11 : decode cX7_rank 11 = .ok (.invokevirtual 239, 3) := by decide +kernel
theorem dX7_rank_14 : decode cX7_rank 14 = .ok (.aload_n 0, 1) := by decide +kernel
theorem dX7_rank_15 : decode cX7_rank 15 = .ok (.getfield 47, 3) := by decide +kernel
theorem dX7_rank_18 : decode cX7_rank 18 = .ok (.getfield 242, 3) := by decide +kernel
theorem dX7_rank_21 : decode cX7_rank 21 = .ok (.ireturn, 1) := by decide +kernel
theorem dX7_isConsistent_0 : decode cX7_isConsistent 0 = .ok (.aload_n 0, 1) := by decide +kernel
theorem dX7_isConsistent_1 : decode cX7_isConsistent 1 = .ok (.getfield 47, 3) := by decide +kernel
theorem dX7_isConsistent_4 : decode cX7_isConsistent 4 = .ok (.aload_n 0, 1) := by decide +kernel
theorem dX7_isConsistent_5 : decode cX7_isConsistent 5 = .ok (.getfield 19, 3) := by decide +kernel
theorem dX7_isConsistent_8 : decode cX7_isConsistent 8 = .ok (.getfield 83, 3) := by decide +kernel
theorem dX7_isConsistent_11 : decode cX7_isConsistent 11 = .ok (.invokevirtual 239, 3) := by decide +kernel
theorem dX7_isConsistent_14 : decode cX7_isConsistent 14 = .ok (.aload_n 0, 1) := by decide +kernel
theorem dX7_isConsistent_15 : decode cX7_isConsistent 15 = .ok (.getfield 47, 3) := by decide +kernel
theorem dX7_isConsistent_18 : decode cX7_isConsistent 18 = .ok (.getfield 245, 3) := by decide +kernel
theorem dX7_isConsistent_21 : decode cX7_isConsistent 21 = .ok (.ireturn, 1) := by decide +kernel
theorem dX7_eliminatedRow_0 : decode cX7_eliminatedRow 0 = .ok (.aload_n 0, 1) := by decide +kernel
theorem dX7_eliminatedRow_1 : decode cX7_eliminatedRow 1 = .ok (.getfield 47, 3) := by decide +kernel
theorem dX7_eliminatedRow_4 : decode cX7_eliminatedRow 4 = .ok (.aload_n 0, 1) := by decide +kernel
theorem dX7_eliminatedRow_5 : decode cX7_eliminatedRow 5 = .ok (.getfield 19, 3) := by decide +kernel
theorem dX7_eliminatedRow_8 : decode cX7_eliminatedRow 8 = .ok (.getfield 83, 3) := by decide +kernel
theorem dX7_eliminatedRow_11 : decode cX7_eliminatedRow 11 = .ok (.invokevirtual 239, 3) := by decide +kernel
theorem dX7_eliminatedRow_14 : decode cX7_eliminatedRow 14 = .ok (.aload_n 0, 1) := by decide +kernel
theorem dX7_eliminatedRow_15 : decode cX7_eliminatedRow 15 = .ok (.getfield 47, 3) := by decide +kernel
theorem dX7_eliminatedRow_18 : decode cX7_eliminatedRow 18 = .ok (.getfield 245, 3) := by decide +kernel
theorem dX7_eliminatedRow_21 : decode cX7_eliminatedRow 21 = .ok (.ifCond .ne 13, 3) := by decide +kernel
theorem dX7_eliminatedRow_24 : decode cX7_eliminatedRow 24 = .ok (.new 68, 3) := by decide +kernel
theorem dX7_eliminatedRow_27 : decode cX7_eliminatedRow 27 = .ok (.dup, 1) := by decide +kernel
theorem dX7_eliminatedRow_28 : decode cX7_eliminatedRow 28 = .ok (.ldc 249, 2) := by decide +kernel
theorem dX7_eliminatedRow_30 : decode cX7_eliminatedRow 30 = .ok (.invokespecial 72, 3) := by decide +kernel
theorem dX7_eliminatedRow_33 : decode cX7_eliminatedRow 33 = .ok (.athrow, 1) := by decide +kernel
theorem dX7_eliminatedRow_34 : decode cX7_eliminatedRow 34 = .ok (.aload_n 0, 1) := by decide +kernel
theorem dX7_eliminatedRow_35 : decode cX7_eliminatedRow 35 = .ok (.getfield 47, 3) := by decide +kernel
theorem dX7_eliminatedRow_38 : decode cX7_eliminatedRow 38 = .ok (.iload_n 1, 1) := by decide +kernel
theorem dX7_eliminatedRow_39 : decode cX7_eliminatedRow 39 = .ok (.invokevirtual 251, 3) := by decide +kernel
theorem dX7_eliminatedRow_42 : decode cX7_eliminatedRow 42 = .ok (.ireturn, 1) := by decide +kernel
theorem dX7_solve_0 : decode cX7_solve 0 = .ok (.aload_n 0, 1) := by decide +kernel
theorem dX7_solve_1 : decode cX7_solve 1 = .ok (.getfield 51, 3) := by decide +kernel
theorem dX7_solve_4 : decode cX7_solve 4 = .ok (.getfield 83, 3) := by decide +kernel
theorem dX7_solve_7 : decode cX7_solve 7 = .ok (.aload_n 0, 1) := by decide +kernel
theorem dX7_solve_8 : decode cX7_solve 8 = .ok (.getfield 19, 3) := by decide +kernel
theorem dX7_solve_11 : decode cX7_solve 11 = .ok (.getfield 83, 3) := by decide +kernel
theorem dX7_solve_14 : decode cX7_solve 14 = .ok (.invokevirtual 88, 3) := by decide +kernel
theorem dX7_solve_17 : decode cX7_solve 17 = .ok (.aload_n 0, 1) := by decide +kernel
theorem dX7_solve_18 : decode cX7_solve 18 = .ok (.getfield 51, 3) := by decide +kernel
theorem dX7_solve_21 : decode cX7_solve 21 = .ok (.iconst 0, 1) := by decide +kernel
theorem dX7_solve_22 : decode cX7_solve 22 = .ok (.invokevirtual 94, 3) := by decide +kernel
theorem dX7_solve_25 : decode cX7_solve 25 = .ok (.aload_n 0, 1) := by decide +kernel
theorem dX7_solve_26 : decode cX7_solve 26 = .ok (.getfield 54, 3) := by decide +kernel
theorem dX7_solve_29 : decode cX7_solve 29 = .ok (.aload_n 0, 1) := by decide +kernel
theorem dX7_solve_30 : decode cX7_solve 30 = .ok (.getfield 51, 3) := by decide +kernel
theorem dX7_solve_33 : decode cX7_solve 33 = .ok (.invokevirtual 254, 3) := by decide +kernel
theorem dX7_solve_36 : decode cX7_solve 36 = .ok (.iconst 0, 1) := by decide +kernel
theorem dX7_solve_37 : decode cX7_solve 37 = .ok (.istore_n 1, 1) := by decide +kernel
theorem dX7_solve_38 : decode cX7_solve 38 = .ok (.iload_n 1, 1) := by decide +kernel
theorem dX7_solve_39 : decode cX7_solve 39 = .ok (.bipush 24, 2) := by decide +kernel
theorem dX7_solve_41 : decode cX7_solve 41 = .ok (.if_icmp .gt 80, 3) := by decide +kernel
theorem dX7_solve_44 : decode cX7_solve 44 = .ok (.aload_n 0, 1) := by decide +kernel
theorem dX7_solve_45 : decode cX7_solve 45 = .ok (.invokevirtual 257, 3) := by decide +kernel
theorem dX7_solve_48 : decode cX7_solve 48 = .ok (.aload_n 0, 1) := by decide +kernel
theorem dX7_solve_49 : decode cX7_solve 49 = .ok (.getfield 54, 3) := by decide +kernel
theorem dX7_solve_52 : decode cX7_solve 52 = .ok (.getfield 169, 3) := by decide +kernel
theorem dX7_solve_55 : decode cX7_solve 55 = .ok (.bipush (-9), 2) := by decide +kernel
theorem dX7_solve_57 : decode cX7_solve 57 = .ok (.if_icmp .ne 5, 3) := by decide +kernel
theorem dX7_solve_60 : decode cX7_solve 60 = .ok (.iload_n 1, 1) := by decide +kernel
theorem dX7_solve_61 : decode cX7_solve 61 = .ok (.ireturn, 1) := by decide +kernel
theorem dX7_solve_62 : decode cX7_solve 62 = .ok (.aload_n 0, 1) := by decide +kernel
theorem dX7_solve_63 : decode cX7_solve 63 = .ok (.getfield 51, 3) := by decide +kernel
theorem dX7_solve_66 : decode cX7_solve 66 = .ok (.getfield 186, 3) := by decide +kernel
theorem dX7_solve_69 : decode cX7_solve 69 = .ok (.ifCond .ne 7, 3) := by decide +kernel
theorem dX7_solve_72 : decode cX7_solve 72 = .ok (.iconst (-1), 1) := by decide +kernel
theorem dX7_solve_73 : decode cX7_solve 73 = .ok (.iload_n 1, 1) := by decide +kernel
theorem dX7_solve_74 : decode cX7_solve 74 = .ok (.isub, 1) := by decide +kernel
theorem dX7_solve_75 : decode cX7_solve 75 = .ok (.ireturn, 1) := by decide +kernel
theorem dX7_solve_76 : decode cX7_solve 76 = .ok (.aload_n 0, 1) := by decide +kernel
theorem dX7_solve_77 : decode cX7_solve 77 = .ok (.getfield 51, 3) := by decide +kernel
theorem dX7_solve_80 : decode cX7_solve 80 = .ok (.getfield 83, 3) := by decide +kernel
theorem dX7_solve_83 : decode cX7_solve 83 = .ok (.invokevirtual 260, 3) := by decide +kernel
theorem dX7_solve_86 : decode cX7_solve 86 = .ok (.ifCond .eq 6, 3) := by decide +kernel
theorem dX7_solve_89 : decode cX7_solve 89 = .ok (.bipush (-90), 2) := by decide +kernel
theorem dX7_solve_91 : decode cX7_solve 91 = .ok (.ireturn, 1) := by decide +kernel
theorem dX7_solve_92 : decode cX7_solve 92 = .ok (.aload_n 0, 1) := by decide +kernel
theorem dX7_solve_93 : decode cX7_solve 93 = .ok (.getfield 51, 3) := by decide +kernel
theorem dX7_solve_96 : decode cX7_solve 96 = .ok (.aload_n 0, 1) := by decide +kernel
theorem dX7_solve_97 : decode cX7_solve 97 = .ok (.getfield 54, 3) := by decide +kernel
theorem dX7_solve_100 : decode cX7_solve 100 = .ok (.invokestatic 194, 3) := by decide +kernel
theorem dX7_solve_103 : decode cX7_solve 103 = .ok (.pop, 1) := by decide +kernel
theorem dX7_solve_104 : decode cX7_solve 104 = .ok (.aload_n 0, 1) := by decide +kernel
theorem dX7_solve_105 : decode cX7_solve 105 = .ok (.getfield 54, 3) := by decide +kernel
theorem dX7_solve_108 : decode cX7_solve 108 = .ok (.aload_n 0, 1) := by decide +kernel
theorem dX7_solve_109 : decode cX7_solve 109 = .ok (.getfield 51, 3) := by decide +kernel
theorem dX7_solve_112 : decode cX7_solve 112 = .ok (.invokevirtual 254, 3) := by decide +kernel
theorem dX7_solve_115 : decode cX7_solve 115 = .ok (.iinc 1 1, 3) := by decide +kernel
theorem dX7_solve_118 : decode cX7_solve 118 = .ok (.goto (-80), 3) := by decide +kernel
theorem dX7_solve_121 : decode cX7_solve 121 = .ok (.bipush (-90), 2) := by decide +kernel
theorem dX7_solve_123 : decode cX7_solve 123 = .ok (.ireturn, 1) := by decide +kernel
theorem dX7_save_0 : decode cX7_save 0 = .ok (.iload_n 1, 1) := by decide +kernel
theorem dX7_save_1 : decode cX7_save 1 = .ok (.invokestatic 264, 3) := by decide +kernel
theorem dX7_save_4 : decode cX7_save 4 = .ok (.aload_n 0, 1) := by decide +kernel
theorem dX7_save_5 : decode cX7_save 5 = .ok (.getfield 33, 3) := by decide +kernel
theorem dX7_save_8 : decode cX7_save 8 = .ok (.iload_n 1, 1) := by decide +kernel
theorem dX7_save_9 : decode cX7_save 9 = .ok (.aload_n 0, 1) := by decide +kernel
theorem dX7_save_10 : decode cX7_save 10 = .ok (.getfield 19, 3) := by decide +kernel
theorem dX7_save_13 : decode cX7_save 13 = .ok (.invokevirtual 267, 3) := by decide +kernel
theorem dX7_save_16 : decode cX7_save 16 = .ok (.aload_n 0, 1) := by decide +kernel
theorem dX7_save_17 : decode cX7_save 17 = .ok (.getfield 19, 3) := by decide +kernel
theorem dX7_save_20 : decode cX7_save 20 = .ok (.getfield 83, 3) := by decide +kernel
theorem dX7_save_23 : decode cX7_save 23 = .ok (.getfield 106, 3) := by decide +kernel
theorem dX7_save_26 : decode cX7_save 26 = .ok (.ireturn, 1) := by decide +kernel
theorem dX7_restore_0 : decode cX7_restore 0 = .ok (.iload_n 1, 1) := by decide +kernel
theorem dX7_restore_1 : decode cX7_restore 1 = .ok (.invokestatic 264, 3) := by decide +kernel
theorem dX7_restore_4 : decode cX7_restore 4 = .ok (.aload_n 0, 1) := by decide +kernel
theorem dX7_restore_5 : decode cX7_restore 5 = .ok (.getfield 33, 3) := by decide +kernel
theorem dX7_restore_8 : decode cX7_restore 8 = .ok (.iload_n 1, 1) := by decide +kernel
theorem dX7_restore_9 : decode cX7_restore 9 = .ok (.invokevirtual 271, 3) := by decide +kernel
theorem dX7_restore_12 : decode cX7_restore 12 = .ok (.ifCond .ne 14, 3) := by decide +kernel
theorem dX7_restore_15 : decode cX7_restore 15 = .ok (.new 68, 3) := by decide +kernel
theorem dX7_restore_18 : decode cX7_restore 18 = .ok (.dup, 1) := by decide +kernel
theorem dX7_restore_19 : decode cX7_restore 19 = .ok (.ldc_w 274, 3) := by decide +kernel
theorem dX7_restore_22 : decode cX7_restore 22 = .ok (.invokespecial 72, 3) := by decide +kernel
theorem dX7_restore_25 : decode cX7_restore 25 = .ok (.athrow, 1) := by decide +kernel
theorem dX7_restore_26 : decode cX7_restore 26 = .ok (.aload_n 0, 1) := by decide +kernel
theorem dX7_restore_27 : decode cX7_restore 27 = .ok (.getfield 33, 3) := by decide +kernel
theorem dX7_restore_30 : decode cX7_restore 30 = .ok (.iload_n 1, 1) := by decide +kernel
theorem dX7_restore_31 : decode cX7_restore 31 = .ok (.aload_n 0, 1) := by decide +kernel
theorem dX7_restore_32 : decode cX7_restore 32 = .ok (.getfield 19, 3) := by decide +kernel
theorem dX7_restore_35 : decode cX7_restore 35 = .ok (.invokevirtual 276, 3) := by decide +kernel
theorem dX7_restore_38 : decode cX7_restore 38 = .ok (.aload_n 0, 1) := by decide +kernel
theorem dX7_restore_39 : decode cX7_restore 39 = .ok (.getfield 33, 3) := by decide +kernel
theorem dX7_restore_42 : decode cX7_restore 42 = .ok (.invokevirtual 97, 3) := by decide +kernel
theorem dX7_restore_45 : decode cX7_restore 45 = .ok (.aload_n 0, 1) := by decide +kernel
theorem dX7_restore_46 : decode cX7_restore 46 = .ok (.invokevirtual 103, 3) := by decide +kernel
theorem dX7_restore_49 : decode cX7_restore 49 = .ok (.aload_n 0, 1) := by decide +kernel
theorem dX7_restore_50 : decode cX7_restore 50 = .ok (.getfield 19, 3) := by decide +kernel
theorem dX7_restore_53 : decode cX7_restore 53 = .ok (.getfield 83, 3) := by decide +kernel
theorem dX7_restore_56 : decode cX7_restore 56 = .ok (.getfield 106, 3) := by decide +kernel
theorem dX7_restore_59 : decode cX7_restore 59 = .ok (.ireturn, 1) := by decide +kernel
theorem dX7_rebuild_0 : decode cX7_rebuild 0 = .ok (.aload_n 0, 1) := by decide +kernel
theorem dX7_rebuild_1 : decode cX7_rebuild 1 = .ok (.getfield 40, 3) := by decide +kernel
theorem dX7_rebuild_4 : decode cX7_rebuild 4 = .ok (.iconst 1, 1) := by decide +kernel
theorem dX7_rebuild_5 : decode cX7_rebuild 5 = .ok (.putfield 279, 3) := by decide +kernel
theorem dX7_rebuild_8 : decode cX7_rebuild 8 = .ok (.aload_n 0, 1) := by decide +kernel
theorem dX7_rebuild_9 : decode cX7_rebuild 9 = .ok (.getfield 26, 3) := by decide +kernel
theorem dX7_rebuild_12 : decode cX7_rebuild 12 = .ok (.aload_n 0, 1) := by decide +kernel
theorem dX7_rebuild_13 : decode cX7_rebuild 13 = .ok (.getfield 19, 3) := by decide +kernel
theorem dX7_rebuild_16 : decode cX7_rebuild 16 = .ok (.invokevirtual 254, 3) := by decide +kernel
theorem dX7_rebuild_19 : decode cX7_rebuild 19 = .ok (.return_, 1) := by decide +kernel
theorem dX7_addConstraint_0 : decode cX7_addConstraint 0 = .ok (.aload_n 0, 1) := by decide +kernel
theorem dX7_addConstraint_1 : decode cX7_addConstraint 1 = .ok (.getfield 33, 3) := by decide +kernel
theorem dX7_addConstraint_4 : decode cX7_addConstraint 4 = .ok (.aload_n 0, 1) := by decide +kernel
theorem dX7_addConstraint_5 : decode cX7_addConstraint 5 = .ok (.getfield 19, 3) := by decide +kernel
theorem dX7_addConstraint_8 : decode cX7_addConstraint 8 = .ok (.invokevirtual 146, 3) := by decide +kernel
theorem dX7_addConstraint_11 : decode cX7_addConstraint 11 = .ok (.aload_n 0, 1) := by decide +kernel
theorem dX7_addConstraint_12 : decode cX7_addConstraint 12 = .ok (.getfield 19, 3) := by decide +kernel
theorem dX7_addConstraint_15 : decode cX7_addConstraint 15 = .ok (.getfield 83, 3) := by decide +kernel
theorem dX7_addConstraint_18 : decode cX7_addConstraint 18 = .ok (.iload_n 1, 1) := by decide +kernel
theorem dX7_addConstraint_19 : decode cX7_addConstraint 19 = .ok (.invokevirtual 282, 3) := by decide +kernel
theorem dX7_addConstraint_22 : decode cX7_addConstraint 22 = .ok (.aload_n 0, 1) := by decide +kernel
theorem dX7_addConstraint_23 : decode cX7_addConstraint 23 = .ok (.invokevirtual 103, 3) := by decide +kernel
theorem dX7_addConstraint_26 : decode cX7_addConstraint 26 = .ok (.aload_n 0, 1) := by decide +kernel
theorem dX7_addConstraint_27 : decode cX7_addConstraint 27 = .ok (.getfield 19, 3) := by decide +kernel
theorem dX7_addConstraint_30 : decode cX7_addConstraint 30 = .ok (.getfield 83, 3) := by decide +kernel
theorem dX7_addConstraint_33 : decode cX7_addConstraint 33 = .ok (.getfield 106, 3) := by decide +kernel
theorem dX7_addConstraint_36 : decode cX7_addConstraint 36 = .ok (.iconst 1, 1) := by decide +kernel
theorem dX7_addConstraint_37 : decode cX7_addConstraint 37 = .ok (.isub, 1) := by decide +kernel
theorem dX7_addConstraint_38 : decode cX7_addConstraint 38 = .ok (.ireturn, 1) := by decide +kernel
theorem dX7_learnInto_0 : decode cX7_learnInto 0 = .ok (.aload_n 1, 1) := by decide +kernel
theorem dX7_learnInto_1 : decode cX7_learnInto 1 = .ok (.aload_n 0, 1) := by decide +kernel
theorem dX7_learnInto_2 : decode cX7_learnInto 2 = .ok (.getfield 83, 3) := by decide +kernel
theorem dX7_learnInto_5 : decode cX7_learnInto 5 = .ok (.invokevirtual 217, 3) := by decide +kernel
theorem dX7_learnInto_8 : decode cX7_learnInto 8 = .ok (.istore_n 2, 1) := by decide +kernel
theorem dX7_learnInto_9 : decode cX7_learnInto 9 = .ok (.aload_n 1, 1) := by decide +kernel
theorem dX7_learnInto_10 : decode cX7_learnInto 10 = .ok (.iload_n 2, 1) := by decide +kernel
theorem dX7_learnInto_11 : decode cX7_learnInto 11 = .ok (.invokevirtual 285, 3) := by decide +kernel
theorem dX7_learnInto_14 : decode cX7_learnInto 14 = .ok (.istore_n 3, 1) := by decide +kernel
theorem dX7_learnInto_15 : decode cX7_learnInto 15 = .ok (.aload_n 0, 1) := by decide +kernel
theorem dX7_learnInto_16 : decode cX7_learnInto 16 = .ok (.getfield 83, 3) := by decide +kernel
theorem dX7_learnInto_19 : decode cX7_learnInto 19 = .ok (.aload_n 1, 1) := by decide +kernel
theorem dX7_learnInto_20 : decode cX7_learnInto 20 = .ok (.iload_n 2, 1) := by decide +kernel
theorem dX7_learnInto_21 : decode cX7_learnInto 21 = .ok (.invokevirtual 221, 3) := by decide +kernel
theorem dX7_learnInto_24 : decode cX7_learnInto 24 = .ok (.invokevirtual 282, 3) := by decide +kernel
theorem dX7_learnInto_27 : decode cX7_learnInto 27 = .ok (.aload_n 0, 1) := by decide +kernel
theorem dX7_learnInto_28 : decode cX7_learnInto 28 = .ok (.iload_n 3, 1) := by decide +kernel
theorem dX7_learnInto_29 : decode cX7_learnInto 29 = .ok (.invokevirtual 94, 3) := by decide +kernel
theorem dX7_learnInto_32 : decode cX7_learnInto 32 = .ok (.iload_n 3, 1) := by decide +kernel
theorem dX7_learnInto_33 : decode cX7_learnInto 33 = .ok (.ireturn, 1) := by decide +kernel
theorem dX7_decideOpenVariables_0 : decode cX7_decideOpenVariables 0 = .ok (.iconst 0, 1) := by decide +kernel
theorem dX7_decideOpenVariables_1 : decode cX7_decideOpenVariables 1 = .ok (.istore_n 1, 1) := by decide +kernel
theorem dX7_decideOpenVariables_2 : decode cX7_decideOpenVariables 2 = .ok (.iload_n 1, 1) := by decide +kernel
theorem dX7_decideOpenVariables_3 : decode cX7_decideOpenVariables 3 = .ok (.bipush 8, 2) := by decide +kernel
theorem dX7_decideOpenVariables_5 : decode cX7_decideOpenVariables 5 = .ok (.if_icmp .ge 55, 3) := by decide +kernel
theorem dX7_decideOpenVariables_8 : decode cX7_decideOpenVariables 8 = .ok (.aload_n 0, 1) := by decide +kernel
theorem dX7_decideOpenVariables_9 : decode cX7_decideOpenVariables 9 = .ok (.getfield 54, 3) := by decide +kernel
theorem dX7_decideOpenVariables_12 : decode cX7_decideOpenVariables 12 = .ok (.getfield 169, 3) := by decide +kernel
theorem dX7_decideOpenVariables_15 : decode cX7_decideOpenVariables 15 = .ok (.bipush (-9), 2) := by decide +kernel
theorem dX7_decideOpenVariables_17 : decode cX7_decideOpenVariables 17 = .ok (.if_icmp .ne 43, 3) := by decide +kernel
theorem dX7_decideOpenVariables_20 : decode cX7_decideOpenVariables 20 = .ok (.aload_n 0, 1) := by decide +kernel
theorem dX7_decideOpenVariables_21 : decode cX7_decideOpenVariables 21 = .ok (.getfield 54, 3) := by decide +kernel
theorem dX7_decideOpenVariables_24 : decode cX7_decideOpenVariables 24 = .ok (.iload_n 1, 1) := by decide +kernel
theorem dX7_decideOpenVariables_25 : decode cX7_decideOpenVariables 25 = .ok (.invokevirtual 177, 3) := by decide +kernel
theorem dX7_decideOpenVariables_28 : decode cX7_decideOpenVariables 28 = .ok (.ifCond .ne 26, 3) := by decide +kernel
theorem dX7_decideOpenVariables_31 : decode cX7_decideOpenVariables 31 = .ok (.aload_n 0, 1) := by decide +kernel
theorem dX7_decideOpenVariables_32 : decode cX7_decideOpenVariables 32 = .ok (.getfield 51, 3) := by decide +kernel
theorem dX7_decideOpenVariables_35 : decode cX7_decideOpenVariables 35 = .ok (.iload_n 1, 1) := by decide +kernel
theorem dX7_decideOpenVariables_36 : decode cX7_decideOpenVariables 36 = .ok (.iconst 1, 1) := by decide +kernel
theorem dX7_decideOpenVariables_37 : decode cX7_decideOpenVariables 37 = .ok (.invokestatic 288, 3) := by decide +kernel
theorem dX7_decideOpenVariables_40 : decode cX7_decideOpenVariables 40 = .ok (.invokevirtual 182, 3) := by decide +kernel
theorem dX7_decideOpenVariables_43 : decode cX7_decideOpenVariables 43 = .ok (.aload_n 0, 1) := by decide +kernel
theorem dX7_decideOpenVariables_44 : decode cX7_decideOpenVariables 44 = .ok (.getfield 54, 3) := by decide +kernel
theorem dX7_decideOpenVariables_47 : decode cX7_decideOpenVariables 47 = .ok (.aload_n 0, 1) := by decide +kernel
theorem dX7_decideOpenVariables_48 : decode cX7_decideOpenVariables 48 = .ok (.getfield 51, 3) := by decide +kernel
theorem dX7_decideOpenVariables_51 : decode cX7_decideOpenVariables 51 = .ok (.invokevirtual 254, 3) := by decide +kernel
theorem dX7_decideOpenVariables_54 : decode cX7_decideOpenVariables 54 = .ok (.iinc 1 1, 3) := by decide +kernel
theorem dX7_decideOpenVariables_57 : decode cX7_decideOpenVariables 57 = .ok (.goto (-55), 3) := by decide +kernel
theorem dX7_decideOpenVariables_60 : decode cX7_decideOpenVariables 60 = .ok (.return_, 1) := by decide +kernel
theorem dX7_requireConstraint_0 : decode cX7_requireConstraint 0 = .ok (.aload_n 0, 1) := by decide +kernel
theorem dX7_requireConstraint_1 : decode cX7_requireConstraint 1 = .ok (.getfield 19, 3) := by decide +kernel
theorem dX7_requireConstraint_4 : decode cX7_requireConstraint 4 = .ok (.getfield 83, 3) := by decide +kernel
theorem dX7_requireConstraint_7 : decode cX7_requireConstraint 7 = .ok (.iload_n 1, 1) := by decide +kernel
theorem dX7_requireConstraint_8 : decode cX7_requireConstraint 8 = .ok (.invokevirtual 292, 3) := by decide +kernel
theorem dX7_requireConstraint_11 : decode cX7_requireConstraint 11 = .ok (.ifCond .ne 14, 3) := by decide +kernel
theorem dX7_requireConstraint_14 : decode cX7_requireConstraint 14 = .ok (.new 164, 3) := by decide +kernel
theorem dX7_requireConstraint_17 : decode cX7_requireConstraint 17 = .ok (.dup, 1) := by decide +kernel
theorem dX7_requireConstraint_18 : decode cX7_requireConstraint 18 = .ok (.ldc_w 295, 3) := by decide +kernel
theorem dX7_requireConstraint_21 : decode cX7_requireConstraint 21 = .ok (.invokespecial 168, 3) := by decide +kernel
theorem dX7_requireConstraint_24 : decode cX7_requireConstraint 24 = .ok (.athrow, 1) := by decide +kernel
theorem dX7_requireConstraint_25 : decode cX7_requireConstraint 25 = .ok (.return_, 1) := by decide +kernel
theorem dX7_requireRoom_0 : decode cX7_requireRoom 0 = .ok (.aload_n 0, 1) := by decide +kernel
theorem dX7_requireRoom_1 : decode cX7_requireRoom 1 = .ok (.getfield 19, 3) := by decide +kernel
theorem dX7_requireRoom_4 : decode cX7_requireRoom 4 = .ok (.getfield 83, 3) := by decide +kernel
theorem dX7_requireRoom_7 : decode cX7_requireRoom 7 = .ok (.invokevirtual 260, 3) := by decide +kernel
theorem dX7_requireRoom_10 : decode cX7_requireRoom 10 = .ok (.ifCond .eq 14, 3) := by decide +kernel
theorem dX7_requireRoom_13 : decode cX7_requireRoom 13 = .ok (.new 68, 3) := by decide +kernel
theorem dX7_requireRoom_16 : decode cX7_requireRoom 16 = .ok (.dup, 1) := by decide +kernel
theorem dX7_requireRoom_17 : decode cX7_requireRoom 17 = .ok (.ldc_w 297, 3) := by decide +kernel
theorem dX7_requireRoom_20 : decode cX7_requireRoom 20 = .ok (.invokespecial 72, 3) := by decide +kernel
theorem dX7_requireRoom_23 : decode cX7_requireRoom 23 = .ok (.athrow, 1) := by decide +kernel
theorem dX7_requireRoom_24 : decode cX7_requireRoom 24 = .ok (.return_, 1) := by decide +kernel
theorem dX7_requireAnalysis_0 : decode cX7_requireAnalysis 0 = .ok (.aload_n 0, 1) := by decide +kernel
theorem dX7_requireAnalysis_1 : decode cX7_requireAnalysis 1 = .ok (.getfield 26, 3) := by decide +kernel
theorem dX7_requireAnalysis_4 : decode cX7_requireAnalysis 4 = .ok (.getfield 169, 3) := by decide +kernel
theorem dX7_requireAnalysis_7 : decode cX7_requireAnalysis 7 = .ok (.bipush (-9), 2) := by decide +kernel
theorem dX7_requireAnalysis_9 : decode cX7_requireAnalysis 9 = .ok (.if_icmp .eq 13, 3) := by decide +kernel
theorem dX7_requireAnalysis_12 : decode cX7_requireAnalysis 12 = .ok (.aload_n 0, 1) := by decide +kernel
theorem dX7_requireAnalysis_13 : decode cX7_requireAnalysis 13 = .ok (.getfield 19, 3) := by decide +kernel
theorem dX7_requireAnalysis_16 : decode cX7_requireAnalysis 16 = .ok (.getfield 186, 3) := by decide +kernel
theorem dX7_requireAnalysis_19 : decode cX7_requireAnalysis 19 = .ok (.ifCond .ne 14, 3) := by decide +kernel
theorem dX7_requireAnalysis_22 : decode cX7_requireAnalysis 22 = .ok (.new 68, 3) := by decide +kernel
theorem dX7_requireAnalysis_25 : decode cX7_requireAnalysis 25 = .ok (.dup, 1) := by decide +kernel
theorem dX7_requireAnalysis_26 : decode cX7_requireAnalysis 26 = .ok (.ldc_w 299, 3) := by decide +kernel
theorem dX7_requireAnalysis_29 : decode cX7_requireAnalysis 29 = .ok (.invokespecial 72, 3) := by decide +kernel
theorem dX7_requireAnalysis_32 : decode cX7_requireAnalysis 32 = .ok (.athrow, 1) := by decide +kernel
theorem dX7_requireAnalysis_33 : decode cX7_requireAnalysis 33 = .ok (.return_, 1) := by decide +kernel
theorem dX7_requireVariable_0 : decode cX7_requireVariable 0 = .ok (.iload_n 0, 1) := by decide +kernel
theorem dX7_requireVariable_1 : decode cX7_requireVariable 1 = .ok (.invokestatic 301, 3) := by decide +kernel
theorem dX7_requireVariable_4 : decode cX7_requireVariable 4 = .ok (.ifCond .ne 14, 3) := by decide +kernel
theorem dX7_requireVariable_7 : decode cX7_requireVariable 7 = .ok (.new 164, 3) := by decide +kernel
theorem dX7_requireVariable_10 : decode cX7_requireVariable 10 = .ok (.dup, 1) := by decide +kernel
theorem dX7_requireVariable_11 : decode cX7_requireVariable 11 = .ok (.ldc_w 304, 3) := by decide +kernel
theorem dX7_requireVariable_14 : decode cX7_requireVariable 14 = .ok (.invokespecial 168, 3) := by decide +kernel
theorem dX7_requireVariable_17 : decode cX7_requireVariable 17 = .ok (.athrow, 1) := by decide +kernel
theorem dX7_requireVariable_18 : decode cX7_requireVariable 18 = .ok (.return_, 1) := by decide +kernel
theorem dX7_requireSlot_0 : decode cX7_requireSlot 0 = .ok (.iload_n 0, 1) := by decide +kernel
theorem dX7_requireSlot_1 : decode cX7_requireSlot 1 = .ok (.ifCond .lt 8, 3) := by decide +kernel
theorem dX7_requireSlot_4 : decode cX7_requireSlot 4 = .ok (.iload_n 0, 1) := by decide +kernel
theorem dX7_requireSlot_5 : decode cX7_requireSlot 5 = .ok (.iconst 2, 1) := by decide +kernel
theorem dX7_requireSlot_6 : decode cX7_requireSlot 6 = .ok (.if_icmp .lt 14, 3) := by decide +kernel
theorem dX7_requireSlot_9 : decode cX7_requireSlot 9 = .ok (.new 164, 3) := by decide +kernel
theorem dX7_requireSlot_12 : decode cX7_requireSlot 12 = .ok (.dup, 1) := by decide +kernel
theorem dX7_requireSlot_13 : decode cX7_requireSlot 13 = .ok (.ldc_w 306, 3) := by decide +kernel
theorem dX7_requireSlot_16 : decode cX7_requireSlot 16 = .ok (.invokespecial 168, 3) := by decide +kernel
theorem dX7_requireSlot_19 : decode cX7_requireSlot 19 = .ok (.athrow, 1) := by decide +kernel
theorem dX7_requireSlot_20 : decode cX7_requireSlot 20 = .ok (.return_, 1) := by decide +kernel
theorem dX7_requireClause_0 : decode cX7_requireClause 0 = .ok (.iload_n 0, 1) := by decide +kernel
theorem dX7_requireClause_1 : decode cX7_requireClause 1 = .ok (.invokestatic 308, 3) := by decide +kernel
theorem dX7_requireClause_4 : decode cX7_requireClause 4 = .ok (.ifCond .eq 10, 3) := by decide +kernel
theorem dX7_requireClause_7 : decode cX7_requireClause 7 = .ok (.iload_n 1, 1) := by decide +kernel
end
section
theorem dX7_requireClause_8 : decode cX7_requireClause 8 = .ok (.invokestatic 308, 3) := by decide +kernel
theorem dX7_requireClause_11 : decode cX7_requireClause 11 = .ok (.ifCond .ne 14, 3) := by decide +kernel
theorem dX7_requireClause_14 : decode cX7_requireClause 14 = .ok (.new 57, 3) := by decide +kernel
theorem dX7_requireClause_17 : decode cX7_requireClause 17 = .ok (.dup, 1) := by decide +kernel
theorem dX7_requireClause_18 : decode cX7_requireClause 18 = .ok (.ldc_w 311, 3) := by decide +kernel
theorem dX7_requireClause_21 : decode cX7_requireClause 21 = .ok (.invokespecial 61, 3) := by decide +kernel
theorem dX7_requireClause_24 : decode cX7_requireClause 24 = .ok (.athrow, 1) := by decide +kernel
theorem dX7_requireClause_25 : decode cX7_requireClause 25 = .ok (.iload_n 0, 1) := by decide +kernel
theorem dX7_requireClause_26 : decode cX7_requireClause 26 = .ok (.iload_n 1, 1) := by decide +kernel
theorem dX7_requireClause_27 : decode cX7_requireClause 27 = .ok (.iand, 1) := by decide +kernel
theorem dX7_requireClause_28 : decode cX7_requireClause 28 = .ok (.ifCond .eq 14, 3) := by decide +kernel
theorem dX7_requireClause_31 : decode cX7_requireClause 31 = .ok (.new 57, 3) := by decide +kernel
theorem dX7_requireClause_34 : decode cX7_requireClause 34 = .ok (.dup, 1) := by decide +kernel
theorem dX7_requireClause_35 : decode cX7_requireClause 35 = .ok (.ldc_w 313, 3) := by decide +kernel
theorem dX7_requireClause_38 : decode cX7_requireClause 38 = .ok (.invokespecial 61, 3) := by decide +kernel
theorem dX7_requireClause_41 : decode cX7_requireClause 41 = .ok (.athrow, 1) := by decide +kernel
theorem dX7_requireClause_42 : decode cX7_requireClause 42 = .ok (.return_, 1) := by decide +kernel
theorem dX7_requireParity_0 : decode cX7_requireParity 0 = .ok (.iload_n 0, 1) := by decide +kernel
theorem dX7_requireParity_1 : decode cX7_requireParity 1 = .ok (.invokestatic 308, 3) := by decide +kernel
theorem dX7_requireParity_4 : decode cX7_requireParity 4 = .ok (.ifCond .ne 14, 3) := by decide +kernel
theorem dX7_requireParity_7 : decode cX7_requireParity 7 = .ok (.new 57, 3) := by decide +kernel
theorem dX7_requireParity_10 : decode cX7_requireParity 10 = .ok (.dup, 1) := by decide +kernel
theorem dX7_requireParity_11 : decode cX7_requireParity 11 = .ok (.ldc_w 311, 3) := by decide +kernel
theorem dX7_requireParity_14 : decode cX7_requireParity 14 = .ok (.invokespecial 61, 3) := by decide +kernel
theorem dX7_requireParity_17 : decode cX7_requireParity 17 = .ok (.athrow, 1) := by decide +kernel
theorem dX7_requireParity_18 : decode cX7_requireParity 18 = .ok (.iload_n 1, 1) := by decide +kernel
theorem dX7_requireParity_19 : decode cX7_requireParity 19 = .ok (.ifCond .lt 8, 3) := by decide +kernel
theorem dX7_requireParity_22 : decode cX7_requireParity 22 = .ok (.iload_n 1, 1) := by decide +kernel
theorem dX7_requireParity_23 : decode cX7_requireParity 23 = .ok (.iconst 1, 1) := by decide +kernel
theorem dX7_requireParity_24 : decode cX7_requireParity 24 = .ok (.if_icmp .le 14, 3) := by decide +kernel
theorem dX7_requireParity_27 : decode cX7_requireParity 27 = .ok (.new 57, 3) := by decide +kernel
theorem dX7_requireParity_30 : decode cX7_requireParity 30 = .ok (.dup, 1) := by decide +kernel
theorem dX7_requireParity_31 : decode cX7_requireParity 31 = .ok (.ldc_w 315, 3) := by decide +kernel
theorem dX7_requireParity_34 : decode cX7_requireParity 34 = .ok (.invokespecial 61, 3) := by decide +kernel
theorem dX7_requireParity_37 : decode cX7_requireParity 37 = .ok (.athrow, 1) := by decide +kernel
theorem dX7_requireParity_38 : decode cX7_requireParity 38 = .ok (.return_, 1) := by decide +kernel
theorem dX7_isSet_0 : decode cX7_isSet 0 = .ok (.iload_n 0, 1) := by decide +kernel
theorem dX7_isSet_1 : decode cX7_isSet 1 = .ok (.ifCond .lt 14, 3) := by decide +kernel
theorem dX7_isSet_4 : decode cX7_isSet 4 = .ok (.iload_n 0, 1) := by decide +kernel
theorem dX7_isSet_5 : decode cX7_isSet 5 = .ok (.sipush 255, 3) := by decide +kernel
theorem dX7_isSet_8 : decode cX7_isSet 8 = .ok (.if_icmp .gt 7, 3) := by decide +kernel
theorem dX7_isSet_11 : decode cX7_isSet 11 = .ok (.iconst 1, 1) := by decide +kernel
theorem dX7_isSet_12 : decode cX7_isSet 12 = .ok (.goto 4, 3) := by decide +kernel
theorem dX7_isSet_15 : decode cX7_isSet 15 = .ok (.iconst 0, 1) := by decide +kernel
theorem dX7_isSet_16 : decode cX7_isSet 16 = .ok (.ireturn, 1) := by decide +kernel
theorem dX7_isVariable_0 : decode cX7_isVariable 0 = .ok (.iload_n 0, 1) := by decide +kernel
theorem dX7_isVariable_1 : decode cX7_isVariable 1 = .ok (.ifCond .lt 13, 3) := by decide +kernel
theorem dX7_isVariable_4 : decode cX7_isVariable 4 = .ok (.iload_n 0, 1) := by decide +kernel
theorem dX7_isVariable_5 : decode cX7_isVariable 5 = .ok (.bipush 8, 2) := by decide +kernel
theorem dX7_isVariable_7 : decode cX7_isVariable 7 = .ok (.if_icmp .ge 7, 3) := by decide +kernel
theorem dX7_isVariable_10 : decode cX7_isVariable 10 = .ok (.iconst 1, 1) := by decide +kernel
theorem dX7_isVariable_11 : decode cX7_isVariable 11 = .ok (.goto 4, 3) := by decide +kernel
theorem dX7_isVariable_14 : decode cX7_isVariable 14 = .ok (.iconst 0, 1) := by decide +kernel
theorem dX7_isVariable_15 : decode cX7_isVariable 15 = .ok (.ireturn, 1) := by decide +kernel
theorem dX7_contains_0 : decode cX7_contains 0 = .ok (.iload_n 0, 1) := by decide +kernel
theorem dX7_contains_1 : decode cX7_contains 1 = .ok (.iload_n 1, 1) := by decide +kernel
theorem dX7_contains_2 : decode cX7_contains 2 = .ok (.ishr, 1) := by decide +kernel
theorem dX7_contains_3 : decode cX7_contains 3 = .ok (.iconst 1, 1) := by decide +kernel
theorem dX7_contains_4 : decode cX7_contains 4 = .ok (.iand, 1) := by decide +kernel
theorem dX7_contains_5 : decode cX7_contains 5 = .ok (.iconst 1, 1) := by decide +kernel
theorem dX7_contains_6 : decode cX7_contains 6 = .ok (.if_icmp .ne 7, 3) := by decide +kernel
theorem dX7_contains_9 : decode cX7_contains 9 = .ok (.iconst 1, 1) := by decide +kernel
theorem dX7_contains_10 : decode cX7_contains 10 = .ok (.goto 4, 3) := by decide +kernel
theorem dX7_contains_13 : decode cX7_contains 13 = .ok (.iconst 0, 1) := by decide +kernel
theorem dX7_contains_14 : decode cX7_contains 14 = .ok (.ireturn, 1) := by decide +kernel
theorem dX7_smallestVariable_0 : decode cX7_smallestVariable 0 = .ok (.iconst 0, 1) := by decide +kernel
theorem dX7_smallestVariable_1 : decode cX7_smallestVariable 1 = .ok (.istore_n 1, 1) := by decide +kernel
theorem dX7_smallestVariable_2 : decode cX7_smallestVariable 2 = .ok (.iload_n 1, 1) := by decide +kernel
theorem dX7_smallestVariable_3 : decode cX7_smallestVariable 3 = .ok (.bipush 8, 2) := by decide +kernel
theorem dX7_smallestVariable_5 : decode cX7_smallestVariable 5 = .ok (.if_icmp .ge 19, 3) := by decide +kernel
theorem dX7_smallestVariable_8 : decode cX7_smallestVariable 8 = .ok (.iload_n 0, 1) := by decide +kernel
theorem dX7_smallestVariable_9 : decode cX7_smallestVariable 9 = .ok (.iload_n 1, 1) := by decide +kernel
theorem dX7_smallestVariable_10 : decode cX7_smallestVariable 10 = .ok (.invokestatic 317, 3) := by decide +kernel
theorem dX7_smallestVariable_13 : decode cX7_smallestVariable 13 = .ok (.ifCond .eq 5, 3) := by decide +kernel
theorem dX7_smallestVariable_16 : decode cX7_smallestVariable 16 = .ok (.iload_n 1, 1) := by decide +kernel
theorem dX7_smallestVariable_17 : decode cX7_smallestVariable 17 = .ok (.ireturn, 1) := by decide +kernel
theorem dX7_smallestVariable_18 : decode cX7_smallestVariable 18 = .ok (.iinc 1 1, 3) := by decide +kernel
theorem dX7_smallestVariable_21 : decode cX7_smallestVariable 21 = .ok (.goto (-19), 3) := by decide +kernel
theorem dX7_smallestVariable_24 : decode cX7_smallestVariable 24 = .ok (.bipush (-9), 2) := by decide +kernel
theorem dX7_smallestVariable_26 : decode cX7_smallestVariable 26 = .ok (.ireturn, 1) := by decide +kernel
theorem dX7_literalOf_0 : decode cX7_literalOf 0 = .ok (.iconst 2, 1) := by decide +kernel
theorem dX7_literalOf_1 : decode cX7_literalOf 1 = .ok (.iload_n 0, 1) := by decide +kernel
theorem dX7_literalOf_2 : decode cX7_literalOf 2 = .ok (.imul, 1) := by decide +kernel
theorem dX7_literalOf_3 : decode cX7_literalOf 3 = .ok (.iload_n 1, 1) := by decide +kernel
theorem dX7_literalOf_4 : decode cX7_literalOf 4 = .ok (.ifCond .eq 7, 3) := by decide +kernel
theorem dX7_literalOf_7 : decode cX7_literalOf 7 = .ok (.iconst 0, 1) := by decide +kernel
theorem dX7_literalOf_8 : decode cX7_literalOf 8 = .ok (.goto 4, 3) := by decide +kernel
theorem dX7_literalOf_11 : decode cX7_literalOf 11 = .ok (.iconst 1, 1) := by decide +kernel
theorem dX7_literalOf_12 : decode cX7_literalOf 12 = .ok (.iadd, 1) := by decide +kernel
theorem dX7_literalOf_13 : decode cX7_literalOf 13 = .ok (.ireturn, 1) := by decide +kernel
theorem dX7_variableOf_0 : decode cX7_variableOf 0 = .ok (.iload_n 0, 1) := by decide +kernel
theorem dX7_variableOf_1 : decode cX7_variableOf 1 = .ok (.iconst 1, 1) := by decide +kernel
theorem dX7_variableOf_2 : decode cX7_variableOf 2 = .ok (.ishr, 1) := by decide +kernel
theorem dX7_variableOf_3 : decode cX7_variableOf 3 = .ok (.ireturn, 1) := by decide +kernel
theorem dX7_clauseCode_0 : decode cX7_clauseCode 0 = .ok (.iload_n 1, 1) := by decide +kernel
theorem dX7_clauseCode_1 : decode cX7_clauseCode 1 = .ok (.bipush 8, 2) := by decide +kernel
theorem dX7_clauseCode_3 : decode cX7_clauseCode 3 = .ok (.ishl, 1) := by decide +kernel
theorem dX7_clauseCode_4 : decode cX7_clauseCode 4 = .ok (.iload_n 0, 1) := by decide +kernel
theorem dX7_clauseCode_5 : decode cX7_clauseCode 5 = .ok (.ior, 1) := by decide +kernel
theorem dX7_clauseCode_6 : decode cX7_clauseCode 6 = .ok (.ireturn, 1) := by decide +kernel
theorem dX7_parityCode_0 : decode cX7_parityCode 0 = .ok (.ldc_w 321, 3) := by decide +kernel
theorem dX7_parityCode_3 : decode cX7_parityCode 3 = .ok (.iload_n 1, 1) := by decide +kernel
theorem dX7_parityCode_4 : decode cX7_parityCode 4 = .ok (.bipush 8, 2) := by decide +kernel
theorem dX7_parityCode_6 : decode cX7_parityCode 6 = .ok (.ishl, 1) := by decide +kernel
theorem dX7_parityCode_7 : decode cX7_parityCode 7 = .ok (.ior, 1) := by decide +kernel
theorem dX7_parityCode_8 : decode cX7_parityCode 8 = .ok (.iload_n 0, 1) := by decide +kernel
theorem dX7_parityCode_9 : decode cX7_parityCode 9 = .ok (.ior, 1) := by decide +kernel
theorem dX7_parityCode_10 : decode cX7_parityCode 10 = .ok (.ireturn, 1) := by decide +kernel
theorem dX7_isParityCode_0 : decode cX7_isParityCode 0 = .ok (.iload_n 0, 1) := by decide +kernel
theorem dX7_isParityCode_1 : decode cX7_isParityCode 1 = .ok (.ldc_w 321, 3) := by decide +kernel
theorem dX7_isParityCode_4 : decode cX7_isParityCode 4 = .ok (.iand, 1) := by decide +kernel
theorem dX7_isParityCode_5 : decode cX7_isParityCode 5 = .ok (.ifCond .eq 7, 3) := by decide +kernel
theorem dX7_isParityCode_8 : decode cX7_isParityCode 8 = .ok (.iconst 1, 1) := by decide +kernel
theorem dX7_isParityCode_9 : decode cX7_isParityCode 9 = .ok (.goto 4, 3) := by decide +kernel
theorem dX7_isParityCode_12 : decode cX7_isParityCode 12 = .ok (.iconst 0, 1) := by decide +kernel
theorem dX7_isParityCode_13 : decode cX7_isParityCode 13 = .ok (.ireturn, 1) := by decide +kernel
theorem dX7_firstPart_0 : decode cX7_firstPart 0 = .ok (.iload_n 0, 1) := by decide +kernel
theorem dX7_firstPart_1 : decode cX7_firstPart 1 = .ok (.sipush 255, 3) := by decide +kernel
theorem dX7_firstPart_4 : decode cX7_firstPart 4 = .ok (.iand, 1) := by decide +kernel
theorem dX7_firstPart_5 : decode cX7_firstPart 5 = .ok (.ireturn, 1) := by decide +kernel
theorem dX7_secondPart_0 : decode cX7_secondPart 0 = .ok (.iload_n 0, 1) := by decide +kernel
theorem dX7_secondPart_1 : decode cX7_secondPart 1 = .ok (.bipush 8, 2) := by decide +kernel
theorem dX7_secondPart_3 : decode cX7_secondPart 3 = .ok (.ishr, 1) := by decide +kernel
theorem dX7_secondPart_4 : decode cX7_secondPart 4 = .ok (.sipush 255, 3) := by decide +kernel
theorem dX7_secondPart_7 : decode cX7_secondPart 7 = .ok (.iand, 1) := by decide +kernel
theorem dX7_secondPart_8 : decode cX7_secondPart 8 = .ok (.ireturn, 1) := by decide +kernel
theorem dX7_variablesOf_0 : decode cX7_variablesOf 0 = .ok (.iload_n 0, 1) := by decide +kernel
theorem dX7_variablesOf_1 : decode cX7_variablesOf 1 = .ok (.ldc_w 321, 3) := by decide +kernel
theorem dX7_variablesOf_4 : decode cX7_variablesOf 4 = .ok (.iand, 1) := by decide +kernel
theorem dX7_variablesOf_5 : decode cX7_variablesOf 5 = .ok (.ifCond .eq 7, 3) := by decide +kernel
theorem dX7_variablesOf_8 : decode cX7_variablesOf 8 = .ok (.iload_n 0, 1) := by decide +kernel
theorem dX7_variablesOf_9 : decode cX7_variablesOf 9 = .ok (.goto 9, 3) := by decide +kernel
theorem dX7_variablesOf_12 : decode cX7_variablesOf 12 = .ok (.iload_n 0, 1) := by decide +kernel
theorem dX7_variablesOf_13 : decode cX7_variablesOf 13 = .ok (.iload_n 0, 1) := by decide +kernel
theorem dX7_variablesOf_14 : decode cX7_variablesOf 14 = .ok (.bipush 8, 2) := by decide +kernel
theorem dX7_variablesOf_16 : decode cX7_variablesOf 16 = .ok (.ishr, 1) := by decide +kernel
theorem dX7_variablesOf_17 : decode cX7_variablesOf 17 = .ok (.ior, 1) := by decide +kernel
theorem dX7_variablesOf_18 : decode cX7_variablesOf 18 = .ok (.istore_n 1, 1) := by decide +kernel
theorem dX7_variablesOf_19 : decode cX7_variablesOf 19 = .ok (.iload_n 1, 1) := by decide +kernel
theorem dX7_variablesOf_20 : decode cX7_variablesOf 20 = .ok (.sipush 255, 3) := by decide +kernel
theorem dX7_variablesOf_23 : decode cX7_variablesOf 23 = .ok (.iand, 1) := by decide +kernel
theorem dX7_variablesOf_24 : decode cX7_variablesOf 24 = .ok (.ireturn, 1) := by decide +kernel
theorem dX7_isViolated_0 : decode cX7_isViolated 0 = .ok (.iload_n 0, 1) := by decide +kernel
theorem dX7_isViolated_1 : decode cX7_isViolated 1 = .ok (.sipush 255, 3) := by decide +kernel
theorem dX7_isViolated_4 : decode cX7_isViolated 4 = .ok (.iand, 1) := by decide +kernel
theorem dX7_isViolated_5 : decode cX7_isViolated 5 = .ok (.istore_n 2, 1) := by decide +kernel
theorem dX7_isViolated_6 : decode cX7_isViolated 6 = .ok (.iload_n 0, 1) := by decide +kernel
theorem dX7_isViolated_7 : decode cX7_isViolated 7 = .ok (.bipush 8, 2) := by decide +kernel
theorem dX7_isViolated_9 : decode cX7_isViolated 9 = .ok (.ishr, 1) := by decide +kernel
theorem dX7_isViolated_10 : decode cX7_isViolated 10 = .ok (.sipush 255, 3) := by decide +kernel
theorem dX7_isViolated_13 : decode cX7_isViolated 13 = .ok (.iand, 1) := by decide +kernel
theorem dX7_isViolated_14 : decode cX7_isViolated 14 = .ok (.istore_n 3, 1) := by decide +kernel
theorem dX7_isViolated_15 : decode cX7_isViolated 15 = .ok (.iload_n 0, 1) := by decide +kernel
theorem dX7_isViolated_16 : decode cX7_isViolated 16 = .ok (.ldc_w 321, 3) := by decide +kernel
theorem dX7_isViolated_19 : decode cX7_isViolated 19 = .ok (.iand, 1) := by decide +kernel
theorem dX7_isViolated_20 : decode cX7_isViolated 20 = .ok (.ifCond .eq 21, 3) := by decide +kernel
theorem dX7_isViolated_23 : decode cX7_isViolated 23 = .ok (.iload_n 2, 1) := by decide +kernel
theorem dX7_isViolated_24 : decode cX7_isViolated 24 = .ok (.iload_n 1, 1) := by decide +kernel
theorem dX7_isViolated_25 : decode cX7_isViolated 25 = .ok (.iand, 1) := by decide +kernel
theorem dX7_isViolated_26 : decode cX7_isViolated 26 = .ok (.invokestatic 322, 3) := by decide +kernel
theorem dX7_isViolated_29 : decode cX7_isViolated 29 = .ok (.iconst 1, 1) := by decide +kernel
theorem dX7_isViolated_30 : decode cX7_isViolated 30 = .ok (.iand, 1) := by decide +kernel
theorem dX7_isViolated_31 : decode cX7_isViolated 31 = .ok (.iload_n 3, 1) := by decide +kernel
theorem dX7_isViolated_32 : decode cX7_isViolated 32 = .ok (.if_icmp .eq 7, 3) := by decide +kernel
theorem dX7_isViolated_35 : decode cX7_isViolated 35 = .ok (.iconst 1, 1) := by decide +kernel
theorem dX7_isViolated_36 : decode cX7_isViolated 36 = .ok (.goto 4, 3) := by decide +kernel
theorem dX7_isViolated_39 : decode cX7_isViolated 39 = .ok (.iconst 0, 1) := by decide +kernel
theorem dX7_isViolated_40 : decode cX7_isViolated 40 = .ok (.ireturn, 1) := by decide +kernel
theorem dX7_isViolated_41 : decode cX7_isViolated 41 = .ok (.iload_n 2, 1) := by decide +kernel
theorem dX7_isViolated_42 : decode cX7_isViolated 42 = .ok (.iload_n 1, 1) := by decide +kernel
theorem dX7_isViolated_43 : decode cX7_isViolated 43 = .ok (.iand, 1) := by decide +kernel
theorem dX7_isViolated_44 : decode cX7_isViolated 44 = .ok (.ifCond .ne 15, 3) := by decide +kernel
theorem dX7_isViolated_47 : decode cX7_isViolated 47 = .ok (.iload_n 3, 1) := by decide +kernel
theorem dX7_isViolated_48 : decode cX7_isViolated 48 = .ok (.iload_n 1, 1) := by decide +kernel
theorem dX7_isViolated_49 : decode cX7_isViolated 49 = .ok (.iconst (-1), 1) := by decide +kernel
theorem dX7_isViolated_50 : decode cX7_isViolated 50 = .ok (.ixor, 1) := by decide +kernel
theorem dX7_isViolated_51 : decode cX7_isViolated 51 = .ok (.iand, 1) := by decide +kernel
theorem dX7_isViolated_52 : decode cX7_isViolated 52 = .ok (.ifCond .ne 7, 3) := by decide +kernel
theorem dX7_isViolated_55 : decode cX7_isViolated 55 = .ok (.iconst 1, 1) := by decide +kernel
theorem dX7_isViolated_56 : decode cX7_isViolated 56 = .ok (.goto 4, 3) := by decide +kernel
theorem dX7_isViolated_59 : decode cX7_isViolated 59 = .ok (.iconst 0, 1) := by decide +kernel
theorem dX7_isViolated_60 : decode cX7_isViolated 60 = .ok (.ireturn, 1) := by decide +kernel
theorem dX8_init_0 : decode cX8_init 0 = .ok (.aload_n 0, 1) := by decide +kernel
theorem dX8_init_1 : decode cX8_init 1 = .ok (.invokespecial 1, 3) := by decide +kernel
theorem dX8_init_4 : decode cX8_init 4 = .ok (.aload_n 0, 1) := by decide +kernel
theorem dX8_init_5 : decode cX8_init 5 = .ok (.bipush 82, 2) := by decide +kernel
theorem dX8_init_7 : decode cX8_init 7 = .ok (.newarray .int, 2) := by decide +kernel
theorem dX8_init_9 : decode cX8_init 9 = .ok (.putfield 7, 3) := by decide +kernel
theorem dX8_init_12 : decode cX8_init 12 = .ok (.aload_n 0, 1) := by decide +kernel
theorem dX8_init_13 : decode cX8_init 13 = .ok (.bipush 82, 2) := by decide +kernel
theorem dX8_init_15 : decode cX8_init 15 = .ok (.newarray .int, 2) := by decide +kernel
theorem dX8_init_17 : decode cX8_init 17 = .ok (.putfield 13, 3) := by decide +kernel
theorem dX8_init_20 : decode cX8_init 20 = .ok (.aload_n 0, 1) := by decide +kernel
theorem dX8_init_21 : decode cX8_init 21 = .ok (.sipush 1148, 3) := by decide +kernel
theorem dX8_init_24 : decode cX8_init 24 = .ok (.newarray .int, 2) := by decide +kernel
theorem dX8_init_26 : decode cX8_init 26 = .ok (.putfield 16, 3) := by decide +kernel
theorem dX8_init_29 : decode cX8_init 29 = .ok (.aload_n 0, 1) := by decide +kernel
theorem dX8_init_30 : decode cX8_init 30 = .ok (.sipush 164, 3) := by decide +kernel
theorem dX8_init_33 : decode cX8_init 33 = .ok (.newarray .int, 2) := by decide +kernel
theorem dX8_init_35 : decode cX8_init 35 = .ok (.putfield 19, 3) := by decide +kernel
theorem dX8_init_38 : decode cX8_init 38 = .ok (.aload_n 0, 1) := by decide +kernel
theorem dX8_init_39 : decode cX8_init 39 = .ok (.iconst 2, 1) := by decide +kernel
theorem dX8_init_40 : decode cX8_init 40 = .ok (.newarray .boolean, 2) := by decide +kernel
theorem dX8_init_42 : decode cX8_init 42 = .ok (.putfield 22, 3) := by decide +kernel
theorem dX8_init_45 : decode cX8_init 45 = .ok (.aload_n 0, 1) := by decide +kernel
theorem dX8_init_46 : decode cX8_init 46 = .ok (.bipush 8, 2) := by decide +kernel
theorem dX8_init_48 : decode cX8_init 48 = .ok (.newarray .int, 2) := by decide +kernel
theorem dX8_init_50 : decode cX8_init 50 = .ok (.putfield 26, 3) := by decide +kernel
theorem dX8_init_53 : decode cX8_init 53 = .ok (.aload_n 0, 1) := by decide +kernel
theorem dX8_init_54 : decode cX8_init 54 = .ok (.bipush 8, 2) := by decide +kernel
theorem dX8_init_56 : decode cX8_init 56 = .ok (.newarray .int, 2) := by decide +kernel
theorem dX8_init_58 : decode cX8_init 58 = .ok (.putfield 29, 3) := by decide +kernel
theorem dX8_init_61 : decode cX8_init 61 = .ok (.aload_n 0, 1) := by decide +kernel
theorem dX8_init_62 : decode cX8_init 62 = .ok (.bipush 8, 2) := by decide +kernel
theorem dX8_init_64 : decode cX8_init 64 = .ok (.newarray .int, 2) := by decide +kernel
theorem dX8_init_66 : decode cX8_init 66 = .ok (.putfield 32, 3) := by decide +kernel
theorem dX8_init_69 : decode cX8_init 69 = .ok (.aload_n 0, 1) := by decide +kernel
theorem dX8_init_70 : decode cX8_init 70 = .ok (.bipush 8, 2) := by decide +kernel
theorem dX8_init_72 : decode cX8_init 72 = .ok (.newarray .int, 2) := by decide +kernel
theorem dX8_init_74 : decode cX8_init 74 = .ok (.putfield 35, 3) := by decide +kernel
theorem dX8_init_77 : decode cX8_init 77 = .ok (.aload_n 0, 1) := by decide +kernel
theorem dX8_init_78 : decode cX8_init 78 = .ok (.bipush (-9), 2) := by decide +kernel
theorem dX8_init_80 : decode cX8_init 80 = .ok (.putfield 38, 3) := by decide +kernel
theorem dX8_init_83 : decode cX8_init 83 = .ok (.aload_n 0, 1) := by decide +kernel
theorem dX8_init_84 : decode cX8_init 84 = .ok (.bipush 90, 2) := by decide +kernel
theorem dX8_init_86 : decode cX8_init 86 = .ok (.newarray .int, 2) := by decide +kernel
theorem dX8_init_88 : decode cX8_init 88 = .ok (.putfield 42, 3) := by decide +kernel
theorem dX8_init_91 : decode cX8_init 91 = .ok (.aload_n 0, 1) := by decide +kernel
theorem dX8_init_92 : decode cX8_init 92 = .ok (.bipush 82, 2) := by decide +kernel
theorem dX8_init_94 : decode cX8_init 94 = .ok (.newarray .int, 2) := by decide +kernel
theorem dX8_init_96 : decode cX8_init 96 = .ok (.putfield 45, 3) := by decide +kernel
theorem dX8_init_99 : decode cX8_init 99 = .ok (.aload_n 0, 1) := by decide +kernel
theorem dX8_init_100 : decode cX8_init 100 = .ok (.bipush 24, 2) := by decide +kernel
theorem dX8_init_102 : decode cX8_init 102 = .ok (.newarray .int, 2) := by decide +kernel
theorem dX8_init_104 : decode cX8_init 104 = .ok (.putfield 48, 3) := by decide +kernel
theorem dX8_init_107 : decode cX8_init 107 = .ok (.iconst 0, 1) := by decide +kernel
theorem dX8_init_108 : decode cX8_init 108 = .ok (.istore_n 1, 1) := by decide +kernel
theorem dX8_init_109 : decode cX8_init 109 = .ok (.iload_n 1, 1) := by decide +kernel
theorem dX8_init_110 : decode cX8_init 110 = .ok (.bipush 8, 2) := by decide +kernel
theorem dX8_init_112 : decode cX8_init 112 = .ok (.if_icmp .ge 17, 3) := by decide +kernel
theorem dX8_init_115 : decode cX8_init 115 = .ok (.aload_n 0, 1) := by decide +kernel
theorem dX8_init_116 : decode cX8_init 116 = .ok (.getfield 32, 3) := by decide +kernel
theorem dX8_init_119 : decode cX8_init 119 = .ok (.iload_n 1, 1) := by decide +kernel
theorem dX8_init_120 : decode cX8_init 120 = .ok (.bipush (-9), 2) := by decide +kernel
theorem dX8_init_122 : decode cX8_init 122 = .ok (.iastore, 1) := by decide +kernel
theorem dX8_init_123 : decode cX8_init 123 = .ok (.iinc 1 1, 3) := by decide +kernel
theorem dX8_init_126 : decode cX8_init 126 = .ok (.goto (-17), 3) := by decide +kernel
theorem dX8_init_129 : decode cX8_init 129 = .ok (.return_, 1) := by decide +kernel
theorem dX8_thrown_0 : decode cX8_thrown 0 = .ok (.aload_n 0, 1) := by decide +kernel
theorem dX8_thrown_1 : decode cX8_thrown 1 = .ok (.getfield 51, 3) := by decide +kernel
theorem dX8_thrown_4 : decode cX8_thrown 4 = .ok (.ireturn, 1) := by decide +kernel
theorem dX8_refused_0 : decode cX8_refused 0 = .ok (.aload_n 0, 1) := by decide +kernel
theorem dX8_refused_1 : decode cX8_refused 1 = .ok (.iload_n 1, 1) := by decide +kernel
theorem dX8_refused_2 : decode cX8_refused 2 = .ok (.putfield 51, 3) := by decide +kernel
theorem dX8_refused_5 : decode cX8_refused 5 = .ok (.iload_n 1, 1) := by decide +kernel
theorem dX8_refused_6 : decode cX8_refused 6 = .ok (.ifCond .le 7, 3) := by decide +kernel
theorem dX8_refused_9 : decode cX8_refused 9 = .ok (.iconst 1, 1) := by decide +kernel
theorem dX8_refused_10 : decode cX8_refused 10 = .ok (.goto 4, 3) := by decide +kernel
theorem dX8_refused_13 : decode cX8_refused 13 = .ok (.iconst 0, 1) := by decide +kernel
theorem dX8_refused_14 : decode cX8_refused 14 = .ok (.ireturn, 1) := by decide +kernel
theorem dX8_in_0 : decode cX8_in 0 = .ok (.lload_n 0, 1) := by decide +kernel
theorem dX8_in_1 : decode cX8_in 1 = .ok (.lload_n 2, 1) := by decide +kernel
theorem dX8_in_2 : decode cX8_in 2 = .ok (.lcmp, 1) := by decide +kernel
theorem dX8_in_3 : decode cX8_in 3 = .ok (.ifCond .lt 14, 3) := by decide +kernel
theorem dX8_in_6 : decode cX8_in 6 = .ok (.lload_n 0, 1) := by decide +kernel
theorem dX8_in_7 : decode cX8_in 7 = .ok (.lload 4, 2) := by decide +kernel
theorem dX8_in_9 : decode cX8_in 9 = .ok (.lcmp, 1) := by decide +kernel
theorem dX8_in_10 : decode cX8_in 10 = .ok (.ifCond .gt 7, 3) := by decide +kernel
theorem dX8_in_13 : decode cX8_in 13 = .ok (.iconst 1, 1) := by decide +kernel
theorem dX8_in_14 : decode cX8_in 14 = .ok (.goto 4, 3) := by decide +kernel
theorem dX8_in_17 : decode cX8_in 17 = .ok (.iconst 0, 1) := by decide +kernel
theorem dX8_in_18 : decode cX8_in 18 = .ok (.ireturn, 1) := by decide +kernel
theorem dX8_has_0 : decode cX8_has 0 = .ok (.iload_n 0, 1) := by decide +kernel
theorem dX8_has_1 : decode cX8_has 1 = .ok (.iload_n 1, 1) := by decide +kernel
theorem dX8_has_2 : decode cX8_has 2 = .ok (.ishr, 1) := by decide +kernel
theorem dX8_has_3 : decode cX8_has 3 = .ok (.iconst 1, 1) := by decide +kernel
theorem dX8_has_4 : decode cX8_has 4 = .ok (.iand, 1) := by decide +kernel
theorem dX8_has_5 : decode cX8_has 5 = .ok (.iconst 1, 1) := by decide +kernel
theorem dX8_has_6 : decode cX8_has 6 = .ok (.if_icmp .ne 7, 3) := by decide +kernel
theorem dX8_has_9 : decode cX8_has 9 = .ok (.iconst 1, 1) := by decide +kernel
theorem dX8_has_10 : decode cX8_has 10 = .ok (.goto 4, 3) := by decide +kernel
theorem dX8_has_13 : decode cX8_has 13 = .ok (.iconst 0, 1) := by decide +kernel
theorem dX8_has_14 : decode cX8_has 14 = .ok (.ireturn, 1) := by decide +kernel
theorem dX8_bits_0 : decode cX8_bits 0 = .ok (.iconst 0, 1) := by decide +kernel
theorem dX8_bits_1 : decode cX8_bits 1 = .ok (.istore_n 1, 1) := by decide +kernel
theorem dX8_bits_2 : decode cX8_bits 2 = .ok (.iconst 0, 1) := by decide +kernel
theorem dX8_bits_3 : decode cX8_bits 3 = .ok (.istore_n 2, 1) := by decide +kernel
theorem dX8_bits_4 : decode cX8_bits 4 = .ok (.iload_n 2, 1) := by decide +kernel
theorem dX8_bits_5 : decode cX8_bits 5 = .ok (.bipush 24, 2) := by decide +kernel
theorem dX8_bits_7 : decode cX8_bits 7 = .ok (.if_icmp .ge 17, 3) := by decide +kernel
theorem dX8_bits_10 : decode cX8_bits 10 = .ok (.iload_n 1, 1) := by decide +kernel
theorem dX8_bits_11 : decode cX8_bits 11 = .ok (.iload_n 0, 1) := by decide +kernel
theorem dX8_bits_12 : decode cX8_bits 12 = .ok (.iload_n 2, 1) := by decide +kernel
theorem dX8_bits_13 : decode cX8_bits 13 = .ok (.ishr, 1) := by decide +kernel
theorem dX8_bits_14 : decode cX8_bits 14 = .ok (.iconst 1, 1) := by decide +kernel
theorem dX8_bits_15 : decode cX8_bits 15 = .ok (.iand, 1) := by decide +kernel
theorem dX8_bits_16 : decode cX8_bits 16 = .ok (.iadd, 1) := by decide +kernel
theorem dX8_bits_17 : decode cX8_bits 17 = .ok (.istore_n 1, 1) := by decide +kernel
theorem dX8_bits_18 : decode cX8_bits 18 = .ok (.iinc 2 1, 3) := by decide +kernel
theorem dX8_bits_21 : decode cX8_bits 21 = .ok (.goto (-17), 3) := by decide +kernel
theorem dX8_bits_24 : decode cX8_bits 24 = .ok (.iload_n 1, 1) := by decide +kernel
theorem dX8_bits_25 : decode cX8_bits 25 = .ok (.ireturn, 1) := by decide +kernel
theorem dX8_lowest_0 : decode cX8_lowest 0 = .ok (.iconst 0, 1) := by decide +kernel
theorem dX8_lowest_1 : decode cX8_lowest 1 = .ok (.istore_n 1, 1) := by decide +kernel
theorem dX8_lowest_2 : decode cX8_lowest 2 = .ok (.iload_n 0, 1) := by decide +kernel
theorem dX8_lowest_3 : decode cX8_lowest 3 = .ok (.iload_n 1, 1) := by decide +kernel
theorem dX8_lowest_4 : decode cX8_lowest 4 = .ok (.invokestatic 54, 3) := by decide +kernel
theorem dX8_lowest_7 : decode cX8_lowest 7 = .ok (.ifCond .ne 9, 3) := by decide +kernel
theorem dX8_lowest_10 : decode cX8_lowest 10 = .ok (.iinc 1 1, 3) := by decide +kernel
theorem dX8_lowest_13 : decode cX8_lowest 13 = .ok (.goto (-11), 3) := by decide +kernel
theorem dX8_lowest_16 : decode cX8_lowest 16 = .ok (.iload_n 1, 1) := by decide +kernel
theorem dX8_lowest_17 : decode cX8_lowest 17 = .ok (.ireturn, 1) := by decide +kernel
theorem dX8_copy_0 : decode cX8_copy 0 = .ok (.iconst 0, 1) := by decide +kernel
theorem dX8_copy_1 : decode cX8_copy 1 = .ok (.istore_n 2, 1) := by decide +kernel
theorem dX8_copy_2 : decode cX8_copy 2 = .ok (.iload_n 2, 1) := by decide +kernel
theorem dX8_copy_3 : decode cX8_copy 3 = .ok (.bipush 82, 2) := by decide +kernel
theorem dX8_copy_5 : decode cX8_copy 5 = .ok (.if_icmp .ge 15, 3) := by decide +kernel
theorem dX8_copy_8 : decode cX8_copy 8 = .ok (.aload_n 1, 1) := by decide +kernel
theorem dX8_copy_9 : decode cX8_copy 9 = .ok (.iload_n 2, 1) := by decide +kernel
theorem dX8_copy_10 : decode cX8_copy 10 = .ok (.aload_n 0, 1) := by decide +kernel
theorem dX8_copy_11 : decode cX8_copy 11 = .ok (.iload_n 2, 1) := by decide +kernel
theorem dX8_copy_12 : decode cX8_copy 12 = .ok (.iaload, 1) := by decide +kernel
theorem dX8_copy_13 : decode cX8_copy 13 = .ok (.iastore, 1) := by decide +kernel
theorem dX8_copy_14 : decode cX8_copy 14 = .ok (.iinc 2 1, 3) := by decide +kernel
theorem dX8_copy_17 : decode cX8_copy 17 = .ok (.goto (-15), 3) := by decide +kernel
theorem dX8_copy_20 : decode cX8_copy 20 = .ok (.return_, 1) := by decide +kernel
theorem dX8_variablesOf_0 : decode cX8_variablesOf 0 = .ok (.aload_n 0, 1) := by decide +kernel
theorem dX8_variablesOf_1 : decode cX8_variablesOf 1 = .ok (.iconst 1, 1) := by decide +kernel
theorem dX8_variablesOf_2 : decode cX8_variablesOf 2 = .ok (.iload_n 1, 1) := by decide +kernel
theorem dX8_variablesOf_3 : decode cX8_variablesOf 3 = .ok (.iadd, 1) := by decide +kernel
theorem dX8_variablesOf_4 : decode cX8_variablesOf 4 = .ok (.iaload, 1) := by decide +kernel
theorem dX8_variablesOf_5 : decode cX8_variablesOf 5 = .ok (.iconst 1, 1) := by decide +kernel
theorem dX8_variablesOf_6 : decode cX8_variablesOf 6 = .ok (.if_icmp .ne 12, 3) := by decide +kernel
theorem dX8_variablesOf_9 : decode cX8_variablesOf 9 = .ok (.aload_n 0, 1) := by decide +kernel
theorem dX8_variablesOf_10 : decode cX8_variablesOf 10 = .ok (.bipush 25, 2) := by decide +kernel
theorem dX8_variablesOf_12 : decode cX8_variablesOf 12 = .ok (.iload_n 1, 1) := by decide +kernel
theorem dX8_variablesOf_13 : decode cX8_variablesOf 13 = .ok (.iadd, 1) := by decide +kernel
theorem dX8_variablesOf_14 : decode cX8_variablesOf 14 = .ok (.iaload, 1) := by decide +kernel
theorem dX8_variablesOf_15 : decode cX8_variablesOf 15 = .ok (.goto 16, 3) := by decide +kernel
theorem dX8_variablesOf_18 : decode cX8_variablesOf 18 = .ok (.aload_n 0, 1) := by decide +kernel
theorem dX8_variablesOf_19 : decode cX8_variablesOf 19 = .ok (.bipush 25, 2) := by decide +kernel
theorem dX8_variablesOf_21 : decode cX8_variablesOf 21 = .ok (.iload_n 1, 1) := by decide +kernel
theorem dX8_variablesOf_22 : decode cX8_variablesOf 22 = .ok (.iadd, 1) := by decide +kernel
theorem dX8_variablesOf_23 : decode cX8_variablesOf 23 = .ok (.iaload, 1) := by decide +kernel
theorem dX8_variablesOf_24 : decode cX8_variablesOf 24 = .ok (.aload_n 0, 1) := by decide +kernel
theorem dX8_variablesOf_25 : decode cX8_variablesOf 25 = .ok (.bipush 49, 2) := by decide +kernel
theorem dX8_variablesOf_27 : decode cX8_variablesOf 27 = .ok (.iload_n 1, 1) := by decide +kernel
theorem dX8_variablesOf_28 : decode cX8_variablesOf 28 = .ok (.iadd, 1) := by decide +kernel
theorem dX8_variablesOf_29 : decode cX8_variablesOf 29 = .ok (.iaload, 1) := by decide +kernel
theorem dX8_variablesOf_30 : decode cX8_variablesOf 30 = .ok (.ior, 1) := by decide +kernel
theorem dX8_variablesOf_31 : decode cX8_variablesOf 31 = .ok (.ireturn, 1) := by decide +kernel
theorem dX8_isSatisfied_0 : decode cX8_isSatisfied 0 = .ok (.aload_n 0, 1) := by decide +kernel
theorem dX8_isSatisfied_1 : decode cX8_isSatisfied 1 = .ok (.iconst 1, 1) := by decide +kernel
theorem dX8_isSatisfied_2 : decode cX8_isSatisfied 2 = .ok (.iload_n 1, 1) := by decide +kernel
theorem dX8_isSatisfied_3 : decode cX8_isSatisfied 3 = .ok (.iadd, 1) := by decide +kernel
theorem dX8_isSatisfied_4 : decode cX8_isSatisfied 4 = .ok (.iaload, 1) := by decide +kernel
theorem dX8_isSatisfied_5 : decode cX8_isSatisfied 5 = .ok (.iconst 1, 1) := by decide +kernel
theorem dX8_isSatisfied_6 : decode cX8_isSatisfied 6 = .ok (.if_icmp .ne 31, 3) := by decide +kernel
theorem dX8_isSatisfied_9 : decode cX8_isSatisfied 9 = .ok (.aload_n 0, 1) := by decide +kernel
theorem dX8_isSatisfied_10 : decode cX8_isSatisfied 10 = .ok (.bipush 25, 2) := by decide +kernel
theorem dX8_isSatisfied_12 : decode cX8_isSatisfied 12 = .ok (.iload_n 1, 1) := by decide +kernel
theorem dX8_isSatisfied_13 : decode cX8_isSatisfied 13 = .ok (.iadd, 1) := by decide +kernel
theorem dX8_isSatisfied_14 : decode cX8_isSatisfied 14 = .ok (.iaload, 1) := by decide +kernel
theorem dX8_isSatisfied_15 : decode cX8_isSatisfied 15 = .ok (.iload_n 2, 1) := by decide +kernel
theorem dX8_isSatisfied_16 : decode cX8_isSatisfied 16 = .ok (.iand, 1) := by decide +kernel
theorem dX8_isSatisfied_17 : decode cX8_isSatisfied 17 = .ok (.invokestatic 58, 3) := by decide +kernel
theorem dX8_isSatisfied_20 : decode cX8_isSatisfied 20 = .ok (.iconst 2, 1) := by decide +kernel
theorem dX8_isSatisfied_21 : decode cX8_isSatisfied 21 = .ok (.irem, 1) := by decide +kernel
theorem dX8_isSatisfied_22 : decode cX8_isSatisfied 22 = .ok (.aload_n 0, 1) := by decide +kernel
theorem dX8_isSatisfied_23 : decode cX8_isSatisfied 23 = .ok (.bipush 49, 2) := by decide +kernel
theorem dX8_isSatisfied_25 : decode cX8_isSatisfied 25 = .ok (.iload_n 1, 1) := by decide +kernel
theorem dX8_isSatisfied_26 : decode cX8_isSatisfied 26 = .ok (.iadd, 1) := by decide +kernel
theorem dX8_isSatisfied_27 : decode cX8_isSatisfied 27 = .ok (.iaload, 1) := by decide +kernel
theorem dX8_isSatisfied_28 : decode cX8_isSatisfied 28 = .ok (.if_icmp .ne 7, 3) := by decide +kernel
theorem dX8_isSatisfied_31 : decode cX8_isSatisfied 31 = .ok (.iconst 1, 1) := by decide +kernel
theorem dX8_isSatisfied_32 : decode cX8_isSatisfied 32 = .ok (.goto 4, 3) := by decide +kernel
theorem dX8_isSatisfied_35 : decode cX8_isSatisfied 35 = .ok (.iconst 0, 1) := by decide +kernel
theorem dX8_isSatisfied_36 : decode cX8_isSatisfied 36 = .ok (.ireturn, 1) := by decide +kernel
theorem dX8_isSatisfied_37 : decode cX8_isSatisfied 37 = .ok (.aload_n 0, 1) := by decide +kernel
theorem dX8_isSatisfied_38 : decode cX8_isSatisfied 38 = .ok (.bipush 25, 2) := by decide +kernel
theorem dX8_isSatisfied_40 : decode cX8_isSatisfied 40 = .ok (.iload_n 1, 1) := by decide +kernel
theorem dX8_isSatisfied_41 : decode cX8_isSatisfied 41 = .ok (.iadd, 1) := by decide +kernel
theorem dX8_isSatisfied_42 : decode cX8_isSatisfied 42 = .ok (.iaload, 1) := by decide +kernel
theorem dX8_isSatisfied_43 : decode cX8_isSatisfied 43 = .ok (.iload_n 2, 1) := by decide +kernel
theorem dX8_isSatisfied_44 : decode cX8_isSatisfied 44 = .ok (.iand, 1) := by decide +kernel
theorem dX8_isSatisfied_45 : decode cX8_isSatisfied 45 = .ok (.ifCond .ne 16, 3) := by decide +kernel
theorem dX8_isSatisfied_48 : decode cX8_isSatisfied 48 = .ok (.aload_n 0, 1) := by decide +kernel
theorem dX8_isSatisfied_49 : decode cX8_isSatisfied 49 = .ok (.bipush 49, 2) := by decide +kernel
theorem dX8_isSatisfied_51 : decode cX8_isSatisfied 51 = .ok (.iload_n 1, 1) := by decide +kernel
theorem dX8_isSatisfied_52 : decode cX8_isSatisfied 52 = .ok (.iadd, 1) := by decide +kernel
theorem dX8_isSatisfied_53 : decode cX8_isSatisfied 53 = .ok (.iaload, 1) := by decide +kernel
theorem dX8_isSatisfied_54 : decode cX8_isSatisfied 54 = .ok (.iload_n 2, 1) := by decide +kernel
theorem dX8_isSatisfied_55 : decode cX8_isSatisfied 55 = .ok (.iconst (-1), 1) := by decide +kernel
theorem dX8_isSatisfied_56 : decode cX8_isSatisfied 56 = .ok (.ixor, 1) := by decide +kernel
theorem dX8_isSatisfied_57 : decode cX8_isSatisfied 57 = .ok (.iand, 1) := by decide +kernel
theorem dX8_isSatisfied_58 : decode cX8_isSatisfied 58 = .ok (.ifCond .eq 7, 3) := by decide +kernel
theorem dX8_isSatisfied_61 : decode cX8_isSatisfied 61 = .ok (.iconst 1, 1) := by decide +kernel
theorem dX8_isSatisfied_62 : decode cX8_isSatisfied 62 = .ok (.goto 4, 3) := by decide +kernel
theorem dX8_isSatisfied_65 : decode cX8_isSatisfied 65 = .ok (.iconst 0, 1) := by decide +kernel
theorem dX8_isSatisfied_66 : decode cX8_isSatisfied 66 = .ok (.ireturn, 1) := by decide +kernel
theorem dX8_addTo_0 : decode cX8_addTo 0 = .ok (.aload_n 0, 1) := by decide +kernel
theorem dX8_addTo_1 : decode cX8_addTo 1 = .ok (.iconst 0, 1) := by decide +kernel
theorem dX8_addTo_2 : decode cX8_addTo 2 = .ok (.iaload, 1) := by decide +kernel
theorem dX8_addTo_3 : decode cX8_addTo 3 = .ok (.istore 4, 2) := by decide +kernel
theorem dX8_addTo_5 : decode cX8_addTo 5 = .ok (.aload_n 0, 1) := by decide +kernel
theorem dX8_addTo_6 : decode cX8_addTo 6 = .ok (.iconst 1, 1) := by decide +kernel
theorem dX8_addTo_7 : decode cX8_addTo 7 = .ok (.iload 4, 2) := by decide +kernel
theorem dX8_addTo_9 : decode cX8_addTo 9 = .ok (.iadd, 1) := by decide +kernel
theorem dX8_addTo_10 : decode cX8_addTo 10 = .ok (.iload_n 1, 1) := by decide +kernel
theorem dX8_addTo_11 : decode cX8_addTo 11 = .ok (.iastore, 1) := by decide +kernel
theorem dX8_addTo_12 : decode cX8_addTo 12 = .ok (.aload_n 0, 1) := by decide +kernel
theorem dX8_addTo_13 : decode cX8_addTo 13 = .ok (.bipush 25, 2) := by decide +kernel
theorem dX8_addTo_15 : decode cX8_addTo 15 = .ok (.iload 4, 2) := by decide +kernel
theorem dX8_addTo_17 : decode cX8_addTo 17 = .ok (.iadd, 1) := by decide +kernel
theorem dX8_addTo_18 : decode cX8_addTo 18 = .ok (.iload_n 2, 1) := by decide +kernel
theorem dX8_addTo_19 : decode cX8_addTo 19 = .ok (.iastore, 1) := by decide +kernel
theorem dX8_addTo_20 : decode cX8_addTo 20 = .ok (.aload_n 0, 1) := by decide +kernel
theorem dX8_addTo_21 : decode cX8_addTo 21 = .ok (.bipush 49, 2) := by decide +kernel
theorem dX8_addTo_23 : decode cX8_addTo 23 = .ok (.iload 4, 2) := by decide +kernel
theorem dX8_addTo_25 : decode cX8_addTo 25 = .ok (.iadd, 1) := by decide +kernel
theorem dX8_addTo_26 : decode cX8_addTo 26 = .ok (.iload_n 3, 1) := by decide +kernel
theorem dX8_addTo_27 : decode cX8_addTo 27 = .ok (.iastore, 1) := by decide +kernel
theorem dX8_addTo_28 : decode cX8_addTo 28 = .ok (.aload_n 0, 1) := by decide +kernel
theorem dX8_addTo_29 : decode cX8_addTo 29 = .ok (.iconst 0, 1) := by decide +kernel
theorem dX8_addTo_30 : decode cX8_addTo 30 = .ok (.dup2, 1) := by decide +kernel
theorem dX8_addTo_31 : decode cX8_addTo 31 = .ok (.iaload, 1) := by decide +kernel
theorem dX8_addTo_32 : decode cX8_addTo 32 = .ok (.iconst 1, 1) := by decide +kernel
theorem dX8_addTo_33 : decode cX8_addTo 33 = .ok (.iadd, 1) := by decide +kernel
theorem dX8_addTo_34 : decode cX8_addTo 34 = .ok (.iastore, 1) := by decide +kernel
theorem dX8_addTo_35 : decode cX8_addTo 35 = .ok (.return_, 1) := by decide +kernel
theorem dX8_assign_0 : decode cX8_assign 0 = .ok (.aload_n 0, 1) := by decide +kernel
theorem dX8_assign_1 : decode cX8_assign 1 = .ok (.dup, 1) := by decide +kernel
theorem dX8_assign_2 : decode cX8_assign 2 = .ok (.getfield 62, 3) := by decide +kernel
theorem dX8_assign_5 : decode cX8_assign 5 = .ok (.iconst 1, 1) := by decide +kernel
theorem dX8_assign_6 : decode cX8_assign 6 = .ok (.iload_n 1, 1) := by decide +kernel
theorem dX8_assign_7 : decode cX8_assign 7 = .ok (.ishl, 1) := by decide +kernel
theorem dX8_assign_8 : decode cX8_assign 8 = .ok (.ior, 1) := by decide +kernel
theorem dX8_assign_9 : decode cX8_assign 9 = .ok (.putfield 62, 3) := by decide +kernel
theorem dX8_assign_12 : decode cX8_assign 12 = .ok (.aload_n 0, 1) := by decide +kernel
theorem dX8_assign_13 : decode cX8_assign 13 = .ok (.dup, 1) := by decide +kernel
theorem dX8_assign_14 : decode cX8_assign 14 = .ok (.getfield 65, 3) := by decide +kernel
theorem dX8_assign_17 : decode cX8_assign 17 = .ok (.iload_n 2, 1) := by decide +kernel
theorem dX8_assign_18 : decode cX8_assign 18 = .ok (.ifCond .eq 9, 3) := by decide +kernel
theorem dX8_assign_21 : decode cX8_assign 21 = .ok (.iconst 1, 1) := by decide +kernel
theorem dX8_assign_22 : decode cX8_assign 22 = .ok (.iload_n 1, 1) := by decide +kernel
theorem dX8_assign_23 : decode cX8_assign 23 = .ok (.ishl, 1) := by decide +kernel
theorem dX8_assign_24 : decode cX8_assign 24 = .ok (.goto 4, 3) := by decide +kernel
theorem dX8_assign_27 : decode cX8_assign 27 = .ok (.iconst 0, 1) := by decide +kernel
theorem dX8_assign_28 : decode cX8_assign 28 = .ok (.ior, 1) := by decide +kernel
theorem dX8_assign_29 : decode cX8_assign 29 = .ok (.putfield 65, 3) := by decide +kernel
theorem dX8_assign_32 : decode cX8_assign 32 = .ok (.aload_n 0, 1) := by decide +kernel
theorem dX8_assign_33 : decode cX8_assign 33 = .ok (.getfield 35, 3) := by decide +kernel
theorem dX8_assign_36 : decode cX8_assign 36 = .ok (.iload_n 1, 1) := by decide +kernel
theorem dX8_assign_37 : decode cX8_assign 37 = .ok (.aload_n 0, 1) := by decide +kernel
theorem dX8_assign_38 : decode cX8_assign 38 = .ok (.getfield 68, 3) := by decide +kernel
theorem dX8_assign_41 : decode cX8_assign 41 = .ok (.iastore, 1) := by decide +kernel
theorem dX8_assign_42 : decode cX8_assign 42 = .ok (.aload_n 0, 1) := by decide +kernel
theorem dX8_assign_43 : decode cX8_assign 43 = .ok (.getfield 26, 3) := by decide +kernel
theorem dX8_assign_46 : decode cX8_assign 46 = .ok (.aload_n 0, 1) := by decide +kernel
theorem dX8_assign_47 : decode cX8_assign 47 = .ok (.getfield 68, 3) := by decide +kernel
theorem dX8_assign_50 : decode cX8_assign 50 = .ok (.iconst 2, 1) := by decide +kernel
theorem dX8_assign_51 : decode cX8_assign 51 = .ok (.iload_n 1, 1) := by decide +kernel
theorem dX8_assign_52 : decode cX8_assign 52 = .ok (.imul, 1) := by decide +kernel
theorem dX8_assign_53 : decode cX8_assign 53 = .ok (.iload_n 2, 1) := by decide +kernel
theorem dX8_assign_54 : decode cX8_assign 54 = .ok (.ifCond .eq 7, 3) := by decide +kernel
theorem dX8_assign_57 : decode cX8_assign 57 = .ok (.iconst 0, 1) := by decide +kernel
theorem dX8_assign_58 : decode cX8_assign 58 = .ok (.goto 4, 3) := by decide +kernel
theorem dX8_assign_61 : decode cX8_assign 61 = .ok (.iconst 1, 1) := by decide +kernel
theorem dX8_assign_62 : decode cX8_assign 62 = .ok (.iadd, 1) := by decide +kernel
theorem dX8_assign_63 : decode cX8_assign 63 = .ok (.iastore, 1) := by decide +kernel
theorem dX8_assign_64 : decode cX8_assign 64 = .ok (.aload_n 0, 1) := by decide +kernel
theorem dX8_assign_65 : decode cX8_assign 65 = .ok (.dup, 1) := by decide +kernel
theorem dX8_assign_66 : decode cX8_assign 66 = .ok (.getfield 68, 3) := by decide +kernel
theorem dX8_assign_69 : decode cX8_assign 69 = .ok (.iconst 1, 1) := by decide +kernel
theorem dX8_assign_70 : decode cX8_assign 70 = .ok (.iadd, 1) := by decide +kernel
theorem dX8_assign_71 : decode cX8_assign 71 = .ok (.putfield 68, 3) := by decide +kernel
theorem dX8_assign_74 : decode cX8_assign 74 = .ok (.aload_n 0, 1) := by decide +kernel
theorem dX8_assign_75 : decode cX8_assign 75 = .ok (.getfield 29, 3) := by decide +kernel
theorem dX8_assign_78 : decode cX8_assign 78 = .ok (.iload_n 1, 1) := by decide +kernel
theorem dX8_assign_79 : decode cX8_assign 79 = .ok (.aload_n 0, 1) := by decide +kernel
theorem dX8_assign_80 : decode cX8_assign 80 = .ok (.getfield 71, 3) := by decide +kernel
theorem dX8_assign_83 : decode cX8_assign 83 = .ok (.iastore, 1) := by decide +kernel
theorem dX8_assign_84 : decode cX8_assign 84 = .ok (.aload_n 0, 1) := by decide +kernel
theorem dX8_assign_85 : decode cX8_assign 85 = .ok (.getfield 32, 3) := by decide +kernel
theorem dX8_assign_88 : decode cX8_assign 88 = .ok (.iload_n 1, 1) := by decide +kernel
theorem dX8_assign_89 : decode cX8_assign 89 = .ok (.iload_n 3, 1) := by decide +kernel
theorem dX8_assign_90 : decode cX8_assign 90 = .ok (.iastore, 1) := by decide +kernel
theorem dX8_assign_91 : decode cX8_assign 91 = .ok (.return_, 1) := by decide +kernel
theorem dX8_stateOf_0 : decode cX8_stateOf 0 = .ok (.aload_n 1, 1) := by decide +kernel
theorem dX8_stateOf_1 : decode cX8_stateOf 1 = .ok (.iload_n 2, 1) := by decide +kernel
theorem dX8_stateOf_2 : decode cX8_stateOf 2 = .ok (.invokestatic 74, 3) := by decide +kernel
theorem dX8_stateOf_5 : decode cX8_stateOf 5 = .ok (.aload_n 0, 1) := by decide +kernel
theorem dX8_stateOf_6 : decode cX8_stateOf 6 = .ok (.getfield 62, 3) := by decide +kernel
theorem dX8_stateOf_9 : decode cX8_stateOf 9 = .ok (.iconst (-1), 1) := by decide +kernel
theorem dX8_stateOf_10 : decode cX8_stateOf 10 = .ok (.ixor, 1) := by decide +kernel
theorem dX8_stateOf_11 : decode cX8_stateOf 11 = .ok (.iand, 1) := by decide +kernel
theorem dX8_stateOf_12 : decode cX8_stateOf 12 = .ok (.invokestatic 58, 3) := by decide +kernel
theorem dX8_stateOf_15 : decode cX8_stateOf 15 = .ok (.istore_n 3, 1) := by decide +kernel
theorem dX8_stateOf_16 : decode cX8_stateOf 16 = .ok (.aload_n 1, 1) := by decide +kernel
theorem dX8_stateOf_17 : decode cX8_stateOf 17 = .ok (.iconst 1, 1) := by decide +kernel
theorem dX8_stateOf_18 : decode cX8_stateOf 18 = .ok (.iload_n 2, 1) := by decide +kernel
theorem dX8_stateOf_19 : decode cX8_stateOf 19 = .ok (.iadd, 1) := by decide +kernel
theorem dX8_stateOf_20 : decode cX8_stateOf 20 = .ok (.iaload, 1) := by decide +kernel
theorem dX8_stateOf_21 : decode cX8_stateOf 21 = .ok (.iconst 1, 1) := by decide +kernel
theorem dX8_stateOf_22 : decode cX8_stateOf 22 = .ok (.if_icmp .ne 34, 3) := by decide +kernel
theorem dX8_stateOf_25 : decode cX8_stateOf 25 = .ok (.iload_n 3, 1) := by decide +kernel
theorem dX8_stateOf_26 : decode cX8_stateOf 26 = .ok (.iconst 1, 1) := by decide +kernel
theorem dX8_stateOf_27 : decode cX8_stateOf 27 = .ok (.if_icmp .ne 7, 3) := by decide +kernel
theorem dX8_stateOf_30 : decode cX8_stateOf 30 = .ok (.iconst 1, 1) := by decide +kernel
theorem dX8_stateOf_31 : decode cX8_stateOf 31 = .ok (.goto 24, 3) := by decide +kernel
theorem dX8_stateOf_34 : decode cX8_stateOf 34 = .ok (.iload_n 3, 1) := by decide +kernel
theorem dX8_stateOf_35 : decode cX8_stateOf 35 = .ok (.ifCond .ne 19, 3) := by decide +kernel
theorem dX8_stateOf_38 : decode cX8_stateOf 38 = .ok (.aload_n 1, 1) := by decide +kernel
theorem dX8_stateOf_39 : decode cX8_stateOf 39 = .ok (.iload_n 2, 1) := by decide +kernel
theorem dX8_stateOf_40 : decode cX8_stateOf 40 = .ok (.aload_n 0, 1) := by decide +kernel
theorem dX8_stateOf_41 : decode cX8_stateOf 41 = .ok (.getfield 65, 3) := by decide +kernel
theorem dX8_stateOf_44 : decode cX8_stateOf 44 = .ok (.invokestatic 78, 3) := by decide +kernel
theorem dX8_stateOf_47 : decode cX8_stateOf 47 = .ok (.ifCond .ne 7, 3) := by decide +kernel
theorem dX8_stateOf_50 : decode cX8_stateOf 50 = .ok (.iconst 2, 1) := by decide +kernel
theorem dX8_stateOf_51 : decode cX8_stateOf 51 = .ok (.goto 4, 3) := by decide +kernel
theorem dX8_stateOf_54 : decode cX8_stateOf 54 = .ok (.iconst 0, 1) := by decide +kernel
theorem dX8_stateOf_55 : decode cX8_stateOf 55 = .ok (.ireturn, 1) := by decide +kernel
theorem dX8_stateOf_56 : decode cX8_stateOf 56 = .ok (.aload_n 1, 1) := by decide +kernel
theorem dX8_stateOf_57 : decode cX8_stateOf 57 = .ok (.bipush 25, 2) := by decide +kernel
theorem dX8_stateOf_59 : decode cX8_stateOf 59 = .ok (.iload_n 2, 1) := by decide +kernel
theorem dX8_stateOf_60 : decode cX8_stateOf 60 = .ok (.iadd, 1) := by decide +kernel
theorem dX8_stateOf_61 : decode cX8_stateOf 61 = .ok (.iaload, 1) := by decide +kernel
theorem dX8_stateOf_62 : decode cX8_stateOf 62 = .ok (.aload_n 0, 1) := by decide +kernel
theorem dX8_stateOf_63 : decode cX8_stateOf 63 = .ok (.getfield 62, 3) := by decide +kernel
theorem dX8_stateOf_66 : decode cX8_stateOf 66 = .ok (.iand, 1) := by decide +kernel
theorem dX8_stateOf_67 : decode cX8_stateOf 67 = .ok (.aload_n 0, 1) := by decide +kernel
theorem dX8_stateOf_68 : decode cX8_stateOf 68 = .ok (.getfield 65, 3) := by decide +kernel
theorem dX8_stateOf_71 : decode cX8_stateOf 71 = .ok (.iand, 1) := by decide +kernel
theorem dX8_stateOf_72 : decode cX8_stateOf 72 = .ok (.ifCond .ne 24, 3) := by decide +kernel
theorem dX8_stateOf_75 : decode cX8_stateOf 75 = .ok (.aload_n 1, 1) := by decide +kernel
theorem dX8_stateOf_76 : decode cX8_stateOf 76 = .ok (.bipush 49, 2) := by decide +kernel
theorem dX8_stateOf_78 : decode cX8_stateOf 78 = .ok (.iload_n 2, 1) := by decide +kernel
theorem dX8_stateOf_79 : decode cX8_stateOf 79 = .ok (.iadd, 1) := by decide +kernel
theorem dX8_stateOf_80 : decode cX8_stateOf 80 = .ok (.iaload, 1) := by decide +kernel
theorem dX8_stateOf_81 : decode cX8_stateOf 81 = .ok (.aload_n 0, 1) := by decide +kernel
theorem dX8_stateOf_82 : decode cX8_stateOf 82 = .ok (.getfield 62, 3) := by decide +kernel
theorem dX8_stateOf_85 : decode cX8_stateOf 85 = .ok (.iand, 1) := by decide +kernel
theorem dX8_stateOf_86 : decode cX8_stateOf 86 = .ok (.aload_n 0, 1) := by decide +kernel
theorem dX8_stateOf_87 : decode cX8_stateOf 87 = .ok (.getfield 65, 3) := by decide +kernel
theorem dX8_stateOf_90 : decode cX8_stateOf 90 = .ok (.iconst (-1), 1) := by decide +kernel
theorem dX8_stateOf_91 : decode cX8_stateOf 91 = .ok (.ixor, 1) := by decide +kernel
theorem dX8_stateOf_92 : decode cX8_stateOf 92 = .ok (.iand, 1) := by decide +kernel
theorem dX8_stateOf_93 : decode cX8_stateOf 93 = .ok (.ifCond .eq 7, 3) := by decide +kernel
theorem dX8_stateOf_96 : decode cX8_stateOf 96 = .ok (.iconst 1, 1) := by decide +kernel
theorem dX8_stateOf_97 : decode cX8_stateOf 97 = .ok (.goto 4, 3) := by decide +kernel
theorem dX8_stateOf_100 : decode cX8_stateOf 100 = .ok (.iconst 0, 1) := by decide +kernel
theorem dX8_stateOf_101 : decode cX8_stateOf 101 = .ok (.istore 4, 2) := by decide +kernel
theorem dX8_stateOf_103 : decode cX8_stateOf 103 = .ok (.iload 4, 2) := by decide +kernel
theorem dX8_stateOf_105 : decode cX8_stateOf 105 = .ok (.ifCond .ne 8, 3) := by decide +kernel
theorem dX8_stateOf_108 : decode cX8_stateOf 108 = .ok (.iload_n 3, 1) := by decide +kernel
theorem dX8_stateOf_109 : decode cX8_stateOf 109 = .ok (.iconst 1, 1) := by decide +kernel
theorem dX8_stateOf_110 : decode cX8_stateOf 110 = .ok (.if_icmp .le 7, 3) := by decide +kernel
theorem dX8_stateOf_113 : decode cX8_stateOf 113 = .ok (.iconst 0, 1) := by decide +kernel
theorem dX8_stateOf_114 : decode cX8_stateOf 114 = .ok (.goto 13, 3) := by decide +kernel
theorem dX8_stateOf_117 : decode cX8_stateOf 117 = .ok (.iload_n 3, 1) := by decide +kernel
theorem dX8_stateOf_118 : decode cX8_stateOf 118 = .ok (.iconst 1, 1) := by decide +kernel
theorem dX8_stateOf_119 : decode cX8_stateOf 119 = .ok (.if_icmp .ne 7, 3) := by decide +kernel
theorem dX8_stateOf_122 : decode cX8_stateOf 122 = .ok (.iconst 1, 1) := by decide +kernel
theorem dX8_stateOf_123 : decode cX8_stateOf 123 = .ok (.goto 4, 3) := by decide +kernel
theorem dX8_stateOf_126 : decode cX8_stateOf 126 = .ok (.iconst 2, 1) := by decide +kernel
theorem dX8_stateOf_127 : decode cX8_stateOf 127 = .ok (.ireturn, 1) := by decide +kernel
theorem dX8_propagate_0 : decode cX8_propagate 0 = .ok (.iconst 1, 1) := by decide +kernel
theorem dX8_propagate_1 : decode cX8_propagate 1 = .ok (.istore_n 2, 1) := by decide +kernel
theorem dX8_propagate_2 : decode cX8_propagate 2 = .ok (.iload_n 2, 1) := by decide +kernel
theorem dX8_propagate_3 : decode cX8_propagate 3 = .ok (.ifCond .eq 143, 3) := by decide +kernel
theorem dX8_propagate_6 : decode cX8_propagate 6 = .ok (.bipush (-9), 2) := by decide +kernel
theorem dX8_propagate_8 : decode cX8_propagate 8 = .ok (.istore_n 3, 1) := by decide +kernel
theorem dX8_propagate_9 : decode cX8_propagate 9 = .ok (.aload_n 1, 1) := by decide +kernel
theorem dX8_propagate_10 : decode cX8_propagate 10 = .ok (.iconst 0, 1) := by decide +kernel
theorem dX8_propagate_11 : decode cX8_propagate 11 = .ok (.iaload, 1) := by decide +kernel
theorem dX8_propagate_12 : decode cX8_propagate 12 = .ok (.iconst 1, 1) := by decide +kernel
theorem dX8_propagate_13 : decode cX8_propagate 13 = .ok (.isub, 1) := by decide +kernel
theorem dX8_propagate_14 : decode cX8_propagate 14 = .ok (.istore 4, 2) := by decide +kernel
theorem dX8_propagate_16 : decode cX8_propagate 16 = .ok (.iload 4, 2) := by decide +kernel
theorem dX8_propagate_18 : decode cX8_propagate 18 = .ok (.ifCond .lt 26, 3) := by decide +kernel
theorem dX8_propagate_21 : decode cX8_propagate 21 = .ok (.aload_n 0, 1) := by decide +kernel
theorem dX8_propagate_22 : decode cX8_propagate 22 = .ok (.aload_n 1, 1) := by decide +kernel
theorem dX8_propagate_23 : decode cX8_propagate 23 = .ok (.iload 4, 2) := by decide +kernel
theorem dX8_propagate_25 : decode cX8_propagate 25 = .ok (.invokevirtual 82, 3) := by decide +kernel
theorem dX8_propagate_28 : decode cX8_propagate 28 = .ok (.ifCond .le 8, 3) := by decide +kernel
theorem dX8_propagate_31 : decode cX8_propagate 31 = .ok (.iload 4, 2) := by decide +kernel
theorem dX8_propagate_33 : decode cX8_propagate 33 = .ok (.goto 4, 3) := by decide +kernel
theorem dX8_propagate_36 : decode cX8_propagate 36 = .ok (.iload_n 3, 1) := by decide +kernel
theorem dX8_propagate_37 : decode cX8_propagate 37 = .ok (.istore_n 3, 1) := by decide +kernel
theorem dX8_propagate_38 : decode cX8_propagate 38 = .ok (.iinc 4 (-1), 3) := by decide +kernel
theorem dX8_propagate_41 : decode cX8_propagate 41 = .ok (.goto (-25), 3) := by decide +kernel
theorem dX8_propagate_44 : decode cX8_propagate 44 = .ok (.iconst 0, 1) := by decide +kernel
theorem dX8_propagate_45 : decode cX8_propagate 45 = .ok (.istore_n 2, 1) := by decide +kernel
theorem dX8_propagate_46 : decode cX8_propagate 46 = .ok (.iload_n 3, 1) := by decide +kernel
theorem dX8_propagate_47 : decode cX8_propagate 47 = .ok (.bipush (-9), 2) := by decide +kernel
theorem dX8_propagate_49 : decode cX8_propagate 49 = .ok (.if_icmp .eq 21, 3) := by decide +kernel
theorem dX8_propagate_52 : decode cX8_propagate 52 = .ok (.aload_n 0, 1) := by decide +kernel
theorem dX8_propagate_53 : decode cX8_propagate 53 = .ok (.aload_n 1, 1) := by decide +kernel
theorem dX8_propagate_54 : decode cX8_propagate 54 = .ok (.iload_n 3, 1) := by decide +kernel
theorem dX8_propagate_55 : decode cX8_propagate 55 = .ok (.invokevirtual 82, 3) := by decide +kernel
theorem dX8_propagate_58 : decode cX8_propagate 58 = .ok (.iconst 2, 1) := by decide +kernel
theorem dX8_propagate_59 : decode cX8_propagate 59 = .ok (.if_icmp .ne 11, 3) := by decide +kernel
theorem dX8_propagate_62 : decode cX8_propagate 62 = .ok (.aload_n 0, 1) := by decide +kernel
theorem dX8_propagate_63 : decode cX8_propagate 63 = .ok (.iload_n 3, 1) := by decide +kernel
theorem dX8_propagate_64 : decode cX8_propagate 64 = .ok (.putfield 38, 3) := by decide +kernel
theorem dX8_propagate_67 : decode cX8_propagate 67 = .ok (.goto 76, 3) := by decide +kernel
theorem dX8_propagate_70 : decode cX8_propagate 70 = .ok (.iload_n 3, 1) := by decide +kernel
theorem dX8_propagate_71 : decode cX8_propagate 71 = .ok (.bipush (-9), 2) := by decide +kernel
theorem dX8_propagate_73 : decode cX8_propagate 73 = .ok (.if_icmp .eq 70, 3) := by decide +kernel
theorem dX8_propagate_76 : decode cX8_propagate 76 = .ok (.aload_n 1, 1) := by decide +kernel
theorem dX8_propagate_77 : decode cX8_propagate 77 = .ok (.iload_n 3, 1) := by decide +kernel
theorem dX8_propagate_78 : decode cX8_propagate 78 = .ok (.invokestatic 74, 3) := by decide +kernel
theorem dX8_propagate_81 : decode cX8_propagate 81 = .ok (.aload_n 0, 1) := by decide +kernel
theorem dX8_propagate_82 : decode cX8_propagate 82 = .ok (.getfield 62, 3) := by decide +kernel
theorem dX8_propagate_85 : decode cX8_propagate 85 = .ok (.iconst (-1), 1) := by decide +kernel
theorem dX8_propagate_86 : decode cX8_propagate 86 = .ok (.ixor, 1) := by decide +kernel
theorem dX8_propagate_87 : decode cX8_propagate 87 = .ok (.iand, 1) := by decide +kernel
theorem dX8_propagate_88 : decode cX8_propagate 88 = .ok (.invokestatic 85, 3) := by decide +kernel
theorem dX8_propagate_91 : decode cX8_propagate 91 = .ok (.istore 4, 2) := by decide +kernel
theorem dX8_propagate_93 : decode cX8_propagate 93 = .ok (.aload_n 1, 1) := by decide +kernel
theorem dX8_propagate_94 : decode cX8_propagate 94 = .ok (.iconst 1, 1) := by decide +kernel
theorem dX8_propagate_95 : decode cX8_propagate 95 = .ok (.iload_n 3, 1) := by decide +kernel
theorem dX8_propagate_96 : decode cX8_propagate 96 = .ok (.iadd, 1) := by decide +kernel
theorem dX8_propagate_97 : decode cX8_propagate 97 = .ok (.iaload, 1) := by decide +kernel
theorem dX8_propagate_98 : decode cX8_propagate 98 = .ok (.iconst 1, 1) := by decide +kernel
theorem dX8_propagate_99 : decode cX8_propagate 99 = .ok (.if_icmp .ne 20, 3) := by decide +kernel
theorem dX8_propagate_102 : decode cX8_propagate 102 = .ok (.aload_n 1, 1) := by decide +kernel
theorem dX8_propagate_103 : decode cX8_propagate 103 = .ok (.iload_n 3, 1) := by decide +kernel
theorem dX8_propagate_104 : decode cX8_propagate 104 = .ok (.aload_n 0, 1) := by decide +kernel
theorem dX8_propagate_105 : decode cX8_propagate 105 = .ok (.getfield 65, 3) := by decide +kernel
theorem dX8_propagate_108 : decode cX8_propagate 108 = .ok (.iconst 1, 1) := by decide +kernel
theorem dX8_propagate_109 : decode cX8_propagate 109 = .ok (.iload 4, 2) := by decide +kernel
theorem dX8_propagate_111 : decode cX8_propagate 111 = .ok (.ishl, 1) := by decide +kernel
theorem dX8_propagate_112 : decode cX8_propagate 112 = .ok (.ior, 1) := by decide +kernel
theorem dX8_propagate_113 : decode cX8_propagate 113 = .ok (.invokestatic 78, 3) := by decide +kernel
theorem dX8_propagate_116 : decode cX8_propagate 116 = .ok (.goto 14, 3) := by decide +kernel
theorem dX8_propagate_119 : decode cX8_propagate 119 = .ok (.aload_n 1, 1) := by decide +kernel
theorem dX8_propagate_120 : decode cX8_propagate 120 = .ok (.bipush 25, 2) := by decide +kernel
theorem dX8_propagate_122 : decode cX8_propagate 122 = .ok (.iload_n 3, 1) := by decide +kernel
theorem dX8_propagate_123 : decode cX8_propagate 123 = .ok (.iadd, 1) := by decide +kernel
theorem dX8_propagate_124 : decode cX8_propagate 124 = .ok (.iaload, 1) := by decide +kernel
theorem dX8_propagate_125 : decode cX8_propagate 125 = .ok (.iload 4, 2) := by decide +kernel
theorem dX8_propagate_127 : decode cX8_propagate 127 = .ok (.invokestatic 54, 3) := by decide +kernel
theorem dX8_propagate_130 : decode cX8_propagate 130 = .ok (.istore 5, 2) := by decide +kernel
theorem dX8_propagate_132 : decode cX8_propagate 132 = .ok (.aload_n 0, 1) := by decide +kernel
theorem dX8_propagate_133 : decode cX8_propagate 133 = .ok (.iload 4, 2) := by decide +kernel
theorem dX8_propagate_135 : decode cX8_propagate 135 = .ok (.iload 5, 2) := by decide +kernel
theorem dX8_propagate_137 : decode cX8_propagate 137 = .ok (.iload_n 3, 1) := by decide +kernel
theorem dX8_propagate_138 : decode cX8_propagate 138 = .ok (.invokevirtual 88, 3) := by decide +kernel
theorem dX8_propagate_141 : decode cX8_propagate 141 = .ok (.iconst 1, 1) := by decide +kernel
theorem dX8_propagate_142 : decode cX8_propagate 142 = .ok (.istore_n 2, 1) := by decide +kernel
theorem dX8_propagate_143 : decode cX8_propagate 143 = .ok (.goto (-141), 3) := by decide +kernel
theorem dX8_propagate_146 : decode cX8_propagate 146 = .ok (.return_, 1) := by decide +kernel
theorem dX8_build_0 : decode cX8_build 0 = .ok (.aload_n 0, 1) := by decide +kernel
theorem dX8_build_1 : decode cX8_build 1 = .ok (.iconst 0, 1) := by decide +kernel
theorem dX8_build_2 : decode cX8_build 2 = .ok (.putfield 62, 3) := by decide +kernel
theorem dX8_build_5 : decode cX8_build 5 = .ok (.aload_n 0, 1) := by decide +kernel
theorem dX8_build_6 : decode cX8_build 6 = .ok (.iconst 0, 1) := by decide +kernel
theorem dX8_build_7 : decode cX8_build 7 = .ok (.putfield 65, 3) := by decide +kernel
theorem dX8_build_10 : decode cX8_build 10 = .ok (.aload_n 0, 1) := by decide +kernel
theorem dX8_build_11 : decode cX8_build 11 = .ok (.iconst 0, 1) := by decide +kernel
theorem dX8_build_12 : decode cX8_build 12 = .ok (.putfield 68, 3) := by decide +kernel
theorem dX8_build_15 : decode cX8_build 15 = .ok (.aload_n 0, 1) := by decide +kernel
theorem dX8_build_16 : decode cX8_build 16 = .ok (.iconst 0, 1) := by decide +kernel
theorem dX8_build_17 : decode cX8_build 17 = .ok (.putfield 71, 3) := by decide +kernel
theorem dX8_build_20 : decode cX8_build 20 = .ok (.aload_n 0, 1) := by decide +kernel
theorem dX8_build_21 : decode cX8_build 21 = .ok (.bipush (-9), 2) := by decide +kernel
theorem dX8_build_23 : decode cX8_build 23 = .ok (.putfield 38, 3) := by decide +kernel
theorem dX8_build_26 : decode cX8_build 26 = .ok (.iconst 0, 1) := by decide +kernel
theorem dX8_build_27 : decode cX8_build 27 = .ok (.istore_n 2, 1) := by decide +kernel
theorem dX8_build_28 : decode cX8_build 28 = .ok (.iload_n 2, 1) := by decide +kernel
theorem dX8_build_29 : decode cX8_build 29 = .ok (.bipush 8, 2) := by decide +kernel
theorem dX8_build_31 : decode cX8_build 31 = .ok (.if_icmp .ge 17, 3) := by decide +kernel
theorem dX8_build_34 : decode cX8_build 34 = .ok (.aload_n 0, 1) := by decide +kernel
theorem dX8_build_35 : decode cX8_build 35 = .ok (.getfield 32, 3) := by decide +kernel
theorem dX8_build_38 : decode cX8_build 38 = .ok (.iload_n 2, 1) := by decide +kernel
theorem dX8_build_39 : decode cX8_build 39 = .ok (.bipush (-9), 2) := by decide +kernel
theorem dX8_build_41 : decode cX8_build 41 = .ok (.iastore, 1) := by decide +kernel
theorem dX8_build_42 : decode cX8_build 42 = .ok (.iinc 2 1, 3) := by decide +kernel
theorem dX8_build_45 : decode cX8_build 45 = .ok (.goto (-17), 3) := by decide +kernel
theorem dX8_build_48 : decode cX8_build 48 = .ok (.aload_n 0, 1) := by decide +kernel
theorem dX8_build_49 : decode cX8_build 49 = .ok (.aload_n 1, 1) := by decide +kernel
theorem dX8_build_50 : decode cX8_build 50 = .ok (.invokevirtual 92, 3) := by decide +kernel
theorem dX8_build_53 : decode cX8_build 53 = .ok (.aload_n 1, 1) := by decide +kernel
theorem dX8_build_54 : decode cX8_build 54 = .ok (.bipush 73, 2) := by decide +kernel
theorem dX8_build_56 : decode cX8_build 56 = .ok (.iaload, 1) := by decide +kernel
theorem dX8_build_57 : decode cX8_build 57 = .ok (.istore_n 2, 1) := by decide +kernel
theorem dX8_build_58 : decode cX8_build 58 = .ok (.aload_n 1, 1) := by decide +kernel
theorem dX8_build_59 : decode cX8_build 59 = .ok (.bipush 73, 2) := by decide +kernel
theorem dX8_build_61 : decode cX8_build 61 = .ok (.iconst 0, 1) := by decide +kernel
theorem dX8_build_62 : decode cX8_build 62 = .ok (.iastore, 1) := by decide +kernel
theorem dX8_build_63 : decode cX8_build 63 = .ok (.iconst 0, 1) := by decide +kernel
theorem dX8_build_64 : decode cX8_build 64 = .ok (.istore_n 3, 1) := by decide +kernel
theorem dX8_build_65 : decode cX8_build 65 = .ok (.iload_n 3, 1) := by decide +kernel
theorem dX8_build_66 : decode cX8_build 66 = .ok (.iload_n 2, 1) := by decide +kernel
theorem dX8_build_67 : decode cX8_build 67 = .ok (.if_icmp .ge 93, 3) := by decide +kernel
theorem dX8_build_70 : decode cX8_build 70 = .ok (.aload_n 1, 1) := by decide +kernel
theorem dX8_build_71 : decode cX8_build 71 = .ok (.bipush 74, 2) := by decide +kernel
theorem dX8_build_73 : decode cX8_build 73 = .ok (.iload_n 3, 1) := by decide +kernel
theorem dX8_build_74 : decode cX8_build 74 = .ok (.iadd, 1) := by decide +kernel
theorem dX8_build_75 : decode cX8_build 75 = .ok (.iaload, 1) := by decide +kernel
theorem dX8_build_76 : decode cX8_build 76 = .ok (.istore 4, 2) := by decide +kernel
theorem dX8_build_78 : decode cX8_build 78 = .ok (.aload_n 1, 1) := by decide +kernel
theorem dX8_build_79 : decode cX8_build 79 = .ok (.bipush 73, 2) := by decide +kernel
theorem dX8_build_81 : decode cX8_build 81 = .ok (.iaload, 1) := by decide +kernel
theorem dX8_build_82 : decode cX8_build 82 = .ok (.iload_n 3, 1) := by decide +kernel
theorem dX8_build_83 : decode cX8_build 83 = .ok (.if_icmp .ne 71, 3) := by decide +kernel
theorem dX8_build_86 : decode cX8_build 86 = .ok (.aload_n 0, 1) := by decide +kernel
theorem dX8_build_87 : decode cX8_build 87 = .ok (.getfield 38, 3) := by decide +kernel
theorem dX8_build_90 : decode cX8_build 90 = .ok (.bipush (-9), 2) := by decide +kernel
theorem dX8_build_92 : decode cX8_build 92 = .ok (.if_icmp .ne 62, 3) := by decide +kernel
theorem dX8_build_95 : decode cX8_build 95 = .ok (.aload_n 0, 1) := by decide +kernel
theorem dX8_build_96 : decode cX8_build 96 = .ok (.getfield 62, 3) := by decide +kernel
theorem dX8_build_99 : decode cX8_build 99 = .ok (.iload 4, 2) := by decide +kernel
theorem dX8_build_101 : decode cX8_build 101 = .ok (.iconst 2, 1) := by decide +kernel
theorem dX8_build_102 : decode cX8_build 102 = .ok (.idiv, 1) := by decide +kernel
theorem dX8_build_103 : decode cX8_build 103 = .ok (.invokestatic 54, 3) := by decide +kernel
theorem dX8_build_106 : decode cX8_build 106 = .ok (.ifCond .ne 48, 3) := by decide +kernel
theorem dX8_build_109 : decode cX8_build 109 = .ok (.aload_n 1, 1) := by decide +kernel
theorem dX8_build_110 : decode cX8_build 110 = .ok (.bipush 73, 2) := by decide +kernel
theorem dX8_build_112 : decode cX8_build 112 = .ok (.dup2, 1) := by decide +kernel
theorem dX8_build_113 : decode cX8_build 113 = .ok (.iaload, 1) := by decide +kernel
theorem dX8_build_114 : decode cX8_build 114 = .ok (.iconst 1, 1) := by decide +kernel
theorem dX8_build_115 : decode cX8_build 115 = .ok (.iadd, 1) := by decide +kernel
theorem dX8_build_116 : decode cX8_build 116 = .ok (.iastore, 1) := by decide +kernel
theorem dX8_build_117 : decode cX8_build 117 = .ok (.aload_n 0, 1) := by decide +kernel
theorem dX8_build_118 : decode cX8_build 118 = .ok (.dup, 1) := by decide +kernel
theorem dX8_build_119 : decode cX8_build 119 = .ok (.getfield 71, 3) := by decide +kernel
theorem dX8_build_122 : decode cX8_build 122 = .ok (.iconst 1, 1) := by decide +kernel
theorem dX8_build_123 : decode cX8_build 123 = .ok (.iadd, 1) := by decide +kernel
theorem dX8_build_124 : decode cX8_build 124 = .ok (.putfield 71, 3) := by decide +kernel
theorem dX8_build_127 : decode cX8_build 127 = .ok (.aload_n 0, 1) := by decide +kernel
theorem dX8_build_128 : decode cX8_build 128 = .ok (.iload 4, 2) := by decide +kernel
theorem dX8_build_130 : decode cX8_build 130 = .ok (.iconst 2, 1) := by decide +kernel
theorem dX8_build_131 : decode cX8_build 131 = .ok (.idiv, 1) := by decide +kernel
theorem dX8_build_132 : decode cX8_build 132 = .ok (.iload 4, 2) := by decide +kernel
theorem dX8_build_134 : decode cX8_build 134 = .ok (.iconst 2, 1) := by decide +kernel
theorem dX8_build_135 : decode cX8_build 135 = .ok (.irem, 1) := by decide +kernel
theorem dX8_build_136 : decode cX8_build 136 = .ok (.ifCond .ne 7, 3) := by decide +kernel
theorem dX8_build_139 : decode cX8_build 139 = .ok (.iconst 1, 1) := by decide +kernel
theorem dX8_build_140 : decode cX8_build 140 = .ok (.goto 4, 3) := by decide +kernel
theorem dX8_build_143 : decode cX8_build 143 = .ok (.iconst 0, 1) := by decide +kernel
theorem dX8_build_144 : decode cX8_build 144 = .ok (.bipush (-9), 2) := by decide +kernel
theorem dX8_build_146 : decode cX8_build 146 = .ok (.invokevirtual 88, 3) := by decide +kernel
theorem dX8_build_149 : decode cX8_build 149 = .ok (.aload_n 0, 1) := by decide +kernel
theorem dX8_build_150 : decode cX8_build 150 = .ok (.aload_n 1, 1) := by decide +kernel
theorem dX8_build_151 : decode cX8_build 151 = .ok (.invokevirtual 92, 3) := by decide +kernel
theorem dX8_build_154 : decode cX8_build 154 = .ok (.iinc 3 1, 3) := by decide +kernel
theorem dX8_build_157 : decode cX8_build 157 = .ok (.goto (-92), 3) := by decide +kernel
theorem dX8_build_160 : decode cX8_build 160 = .ok (.aload_n 1, 1) := by decide +kernel
theorem dX8_build_161 : decode cX8_build 161 = .ok (.bipush 73, 2) := by decide +kernel
theorem dX8_build_163 : decode cX8_build 163 = .ok (.iaload, 1) := by decide +kernel
theorem dX8_build_164 : decode cX8_build 164 = .ok (.istore_n 3, 1) := by decide +kernel
theorem dX8_build_165 : decode cX8_build 165 = .ok (.iload_n 3, 1) := by decide +kernel
theorem dX8_build_166 : decode cX8_build 166 = .ok (.bipush 8, 2) := by decide +kernel
theorem dX8_build_168 : decode cX8_build 168 = .ok (.if_icmp .ge 16, 3) := by decide +kernel
theorem dX8_build_171 : decode cX8_build 171 = .ok (.aload_n 1, 1) := by decide +kernel
theorem dX8_build_172 : decode cX8_build 172 = .ok (.bipush 74, 2) := by decide +kernel
theorem dX8_build_174 : decode cX8_build 174 = .ok (.iload_n 3, 1) := by decide +kernel
theorem dX8_build_175 : decode cX8_build 175 = .ok (.iadd, 1) := by decide +kernel
theorem dX8_build_176 : decode cX8_build 176 = .ok (.iconst 0, 1) := by decide +kernel
theorem dX8_build_177 : decode cX8_build 177 = .ok (.iastore, 1) := by decide +kernel
theorem dX8_build_178 : decode cX8_build 178 = .ok (.iinc 3 1, 3) := by decide +kernel
theorem dX8_build_181 : decode cX8_build 181 = .ok (.goto (-16), 3) := by decide +kernel
theorem dX8_build_184 : decode cX8_build 184 = .ok (.return_, 1) := by decide +kernel
theorem dX8_act_0 : decode cX8_act 0 = .ok (.iconst 0, 1) := by decide +kernel
theorem dX8_act_1 : decode cX8_act 1 = .ok (.istore_n 1, 1) := by decide +kernel
theorem dX8_act_2 : decode cX8_act 2 = .ok (.iload_n 1, 1) := by decide +kernel
theorem dX8_act_3 : decode cX8_act 3 = .ok (.bipush 82, 2) := by decide +kernel
theorem dX8_act_5 : decode cX8_act 5 = .ok (.if_icmp .ge 29, 3) := by decide +kernel
theorem dX8_act_8 : decode cX8_act 8 = .ok (.aload_n 0, 1) := by decide +kernel
theorem dX8_act_9 : decode cX8_act 9 = .ok (.getfield 16, 3) := by decide +kernel
theorem dX8_act_12 : decode cX8_act 12 = .ok (.bipush 82, 2) := by decide +kernel
theorem dX8_act_14 : decode cX8_act 14 = .ok (.aload_n 0, 1) := by decide +kernel
theorem dX8_act_15 : decode cX8_act 15 = .ok (.getfield 96, 3) := by decide +kernel
theorem dX8_act_18 : decode cX8_act 18 = .ok (.imul, 1) := by decide +kernel
theorem dX8_act_19 : decode cX8_act 19 = .ok (.iload_n 1, 1) := by decide +kernel
theorem dX8_act_20 : decode cX8_act 20 = .ok (.iadd, 1) := by decide +kernel
theorem dX8_act_21 : decode cX8_act 21 = .ok (.aload_n 0, 1) := by decide +kernel
theorem dX8_act_22 : decode cX8_act 22 = .ok (.getfield 7, 3) := by decide +kernel
theorem dX8_act_25 : decode cX8_act 25 = .ok (.iload_n 1, 1) := by decide +kernel
theorem dX8_act_26 : decode cX8_act 26 = .ok (.iaload, 1) := by decide +kernel
theorem dX8_act_27 : decode cX8_act 27 = .ok (.iastore, 1) := by decide +kernel
theorem dX8_act_28 : decode cX8_act 28 = .ok (.iinc 1 1, 3) := by decide +kernel
theorem dX8_act_31 : decode cX8_act 31 = .ok (.goto (-29), 3) := by decide +kernel
theorem dX8_act_34 : decode cX8_act 34 = .ok (.aload_n 0, 1) := by decide +kernel
theorem dX8_act_35 : decode cX8_act 35 = .ok (.aload_n 0, 1) := by decide +kernel
theorem dX8_act_36 : decode cX8_act 36 = .ok (.getfield 96, 3) := by decide +kernel
theorem dX8_act_39 : decode cX8_act 39 = .ok (.iconst 1, 1) := by decide +kernel
theorem dX8_act_40 : decode cX8_act 40 = .ok (.iadd, 1) := by decide +kernel
theorem dX8_act_41 : decode cX8_act 41 = .ok (.bipush 14, 2) := by decide +kernel
theorem dX8_act_43 : decode cX8_act 43 = .ok (.irem, 1) := by decide +kernel
theorem dX8_act_44 : decode cX8_act 44 = .ok (.putfield 96, 3) := by decide +kernel
theorem dX8_act_47 : decode cX8_act 47 = .ok (.aload_n 0, 1) := by decide +kernel
theorem dX8_act_48 : decode cX8_act 48 = .ok (.aload_n 0, 1) := by decide +kernel
theorem dX8_act_49 : decode cX8_act 49 = .ok (.getfield 99, 3) := by decide +kernel
theorem dX8_act_52 : decode cX8_act 52 = .ok (.bipush 14, 2) := by decide +kernel
theorem dX8_act_54 : decode cX8_act 54 = .ok (.if_icmp .ge 12, 3) := by decide +kernel
theorem dX8_act_57 : decode cX8_act 57 = .ok (.aload_n 0, 1) := by decide +kernel
theorem dX8_act_58 : decode cX8_act 58 = .ok (.getfield 99, 3) := by decide +kernel
theorem dX8_act_61 : decode cX8_act 61 = .ok (.iconst 1, 1) := by decide +kernel
theorem dX8_act_62 : decode cX8_act 62 = .ok (.iadd, 1) := by decide +kernel
theorem dX8_act_63 : decode cX8_act 63 = .ok (.goto 5, 3) := by decide +kernel
theorem dX8_act_66 : decode cX8_act 66 = .ok (.bipush 14, 2) := by decide +kernel
theorem dX8_act_68 : decode cX8_act 68 = .ok (.putfield 99, 3) := by decide +kernel
theorem dX8_act_71 : decode cX8_act 71 = .ok (.aload_n 0, 1) := by decide +kernel
theorem dX8_act_72 : decode cX8_act 72 = .ok (.getfield 13, 3) := by decide +kernel
theorem dX8_act_75 : decode cX8_act 75 = .ok (.aload_n 0, 1) := by decide +kernel
theorem dX8_act_76 : decode cX8_act 76 = .ok (.getfield 7, 3) := by decide +kernel
theorem dX8_act_79 : decode cX8_act 79 = .ok (.invokestatic 102, 3) := by decide +kernel
theorem dX8_act_82 : decode cX8_act 82 = .ok (.aload_n 0, 1) := by decide +kernel
theorem dX8_act_83 : decode cX8_act 83 = .ok (.aload_n 0, 1) := by decide +kernel
theorem dX8_act_84 : decode cX8_act 84 = .ok (.getfield 7, 3) := by decide +kernel
theorem dX8_act_87 : decode cX8_act 87 = .ok (.invokevirtual 106, 3) := by decide +kernel
theorem dX8_act_90 : decode cX8_act 90 = .ok (.return_, 1) := by decide +kernel
theorem dX8_append_0 : decode cX8_append 0 = .ok (.aload_n 0, 1) := by decide +kernel
theorem dX8_append_1 : decode cX8_append 1 = .ok (.iload_n 1, 1) := by decide +kernel
theorem dX8_append_2 : decode cX8_append 2 = .ok (.i2l, 1) := by decide +kernel
theorem dX8_append_3 : decode cX8_append 3 = .ok (.lconst 0, 1) := by decide +kernel
theorem dX8_append_4 : decode cX8_append 4 = .ok (.ldc2_w 109, 3) := by decide +kernel
theorem dX8_append_7 : decode cX8_append 7 = .ok (.invokestatic 111, 3) := by decide +kernel
theorem dX8_append_10 : decode cX8_append 10 = .ok (.ifCond .ne 7, 3) := by decide +kernel
theorem dX8_append_13 : decode cX8_append 13 = .ok (.iconst 1, 1) := by decide +kernel
theorem dX8_append_14 : decode cX8_append 14 = .ok (.goto 17, 3) := by decide +kernel
theorem dX8_append_17 : decode cX8_append 17 = .ok (.aload_n 0, 1) := by decide +kernel
theorem dX8_append_18 : decode cX8_append 18 = .ok (.getfield 115, 3) := by decide +kernel
theorem dX8_append_21 : decode cX8_append 21 = .ok (.bipush 90, 2) := by decide +kernel
theorem dX8_append_23 : decode cX8_append 23 = .ok (.if_icmp .ne 7, 3) := by decide +kernel
theorem dX8_append_26 : decode cX8_append 26 = .ok (.iconst 2, 1) := by decide +kernel
theorem dX8_append_27 : decode cX8_append 27 = .ok (.goto 4, 3) := by decide +kernel
theorem dX8_append_30 : decode cX8_append 30 = .ok (.iconst 0, 1) := by decide +kernel
theorem dX8_append_31 : decode cX8_append 31 = .ok (.invokevirtual 118, 3) := by decide +kernel
theorem dX8_append_34 : decode cX8_append 34 = .ok (.ifCond .eq 5, 3) := by decide +kernel
theorem dX8_append_37 : decode cX8_append 37 = .ok (.iconst 0, 1) := by decide +kernel
theorem dX8_append_38 : decode cX8_append 38 = .ok (.ireturn, 1) := by decide +kernel
theorem dX8_append_39 : decode cX8_append 39 = .ok (.aload_n 0, 1) := by decide +kernel
theorem dX8_append_40 : decode cX8_append 40 = .ok (.getfield 42, 3) := by decide +kernel
theorem dX8_append_43 : decode cX8_append 43 = .ok (.aload_n 0, 1) := by decide +kernel
theorem dX8_append_44 : decode cX8_append 44 = .ok (.getfield 115, 3) := by decide +kernel
theorem dX8_append_47 : decode cX8_append 47 = .ok (.iload_n 1, 1) := by decide +kernel
theorem dX8_append_48 : decode cX8_append 48 = .ok (.iastore, 1) := by decide +kernel
theorem dX8_append_49 : decode cX8_append 49 = .ok (.aload_n 0, 1) := by decide +kernel
theorem dX8_append_50 : decode cX8_append 50 = .ok (.dup, 1) := by decide +kernel
theorem dX8_append_51 : decode cX8_append 51 = .ok (.getfield 115, 3) := by decide +kernel
theorem dX8_append_54 : decode cX8_append 54 = .ok (.iconst 1, 1) := by decide +kernel
theorem dX8_append_55 : decode cX8_append 55 = .ok (.iadd, 1) := by decide +kernel
theorem dX8_append_56 : decode cX8_append 56 = .ok (.putfield 115, 3) := by decide +kernel
theorem dX8_append_59 : decode cX8_append 59 = .ok (.aload_n 0, 1) := by decide +kernel
theorem dX8_append_60 : decode cX8_append 60 = .ok (.getfield 115, 3) := by decide +kernel
theorem dX8_append_63 : decode cX8_append 63 = .ok (.ireturn, 1) := by decide +kernel
theorem dX8_clearText_0 : decode cX8_clearText 0 = .ok (.aload_n 0, 1) := by decide +kernel
theorem dX8_clearText_1 : decode cX8_clearText 1 = .ok (.iconst 0, 1) := by decide +kernel
theorem dX8_clearText_2 : decode cX8_clearText 2 = .ok (.putfield 51, 3) := by decide +kernel
theorem dX8_clearText_5 : decode cX8_clearText 5 = .ok (.aload_n 0, 1) := by decide +kernel
theorem dX8_clearText_6 : decode cX8_clearText 6 = .ok (.getfield 115, 3) := by decide +kernel
theorem dX8_clearText_9 : decode cX8_clearText 9 = .ok (.istore_n 1, 1) := by decide +kernel
theorem dX8_clearText_10 : decode cX8_clearText 10 = .ok (.aload_n 0, 1) := by decide +kernel
theorem dX8_clearText_11 : decode cX8_clearText 11 = .ok (.iconst 0, 1) := by decide +kernel
theorem dX8_clearText_12 : decode cX8_clearText 12 = .ok (.putfield 115, 3) := by decide +kernel
theorem dX8_clearText_15 : decode cX8_clearText 15 = .ok (.iload_n 1, 1) := by decide +kernel
theorem dX8_clearText_16 : decode cX8_clearText 16 = .ok (.ireturn, 1) := by decide +kernel
theorem dX8_character_0 : decode cX8_character 0 = .ok (.aload_n 0, 1) := by decide +kernel
theorem dX8_character_1 : decode cX8_character 1 = .ok (.getfield 122, 3) := by decide +kernel
theorem dX8_character_4 : decode cX8_character 4 = .ok (.aload_n 0, 1) := by decide +kernel
theorem dX8_character_5 : decode cX8_character 5 = .ok (.getfield 115, 3) := by decide +kernel
theorem dX8_character_8 : decode cX8_character 8 = .ok (.if_icmp .ge 15, 3) := by decide +kernel
theorem dX8_character_11 : decode cX8_character 11 = .ok (.aload_n 0, 1) := by decide +kernel
theorem dX8_character_12 : decode cX8_character 12 = .ok (.getfield 42, 3) := by decide +kernel
theorem dX8_character_15 : decode cX8_character 15 = .ok (.aload_n 0, 1) := by decide +kernel
theorem dX8_character_16 : decode cX8_character 16 = .ok (.getfield 122, 3) := by decide +kernel
theorem dX8_character_19 : decode cX8_character 19 = .ok (.iaload, 1) := by decide +kernel
theorem dX8_character_20 : decode cX8_character 20 = .ok (.goto 4, 3) := by decide +kernel
theorem dX8_character_23 : decode cX8_character 23 = .ok (.iconst 0, 1) := by decide +kernel
theorem dX8_character_24 : decode cX8_character 24 = .ok (.ireturn, 1) := by decide +kernel
theorem dX8_readParity_0 : decode cX8_readParity 0 = .ok (.aload_n 0, 1) := by decide +kernel
theorem dX8_readParity_1 : decode cX8_readParity 1 = .ok (.dup, 1) := by decide +kernel
theorem dX8_readParity_2 : decode cX8_readParity 2 = .ok (.getfield 122, 3) := by decide +kernel
theorem dX8_readParity_5 : decode cX8_readParity 5 = .ok (.iconst 1, 1) := by decide +kernel
theorem dX8_readParity_6 : decode cX8_readParity 6 = .ok (.iadd, 1) := by decide +kernel
theorem dX8_readParity_7 : decode cX8_readParity 7 = .ok (.putfield 122, 3) := by decide +kernel
theorem dX8_readParity_10 : decode cX8_readParity 10 = .ok (.aload_n 0, 1) := by decide +kernel
theorem dX8_readParity_11 : decode cX8_readParity 11 = .ok (.invokevirtual 125, 3) := by decide +kernel
theorem dX8_readParity_14 : decode cX8_readParity 14 = .ok (.bipush 48, 2) := by decide +kernel
theorem dX8_readParity_16 : decode cX8_readParity 16 = .ok (.isub, 1) := by decide +kernel
theorem dX8_readParity_17 : decode cX8_readParity 17 = .ok (.istore_n 1, 1) := by decide +kernel
theorem dX8_readParity_18 : decode cX8_readParity 18 = .ok (.iload_n 1, 1) := by decide +kernel
theorem dX8_readParity_19 : decode cX8_readParity 19 = .ok (.i2l, 1) := by decide +kernel
theorem dX8_readParity_20 : decode cX8_readParity 20 = .ok (.lconst 0, 1) := by decide +kernel
theorem dX8_readParity_21 : decode cX8_readParity 21 = .ok (.lconst 1, 1) := by decide +kernel
theorem dX8_readParity_22 : decode cX8_readParity 22 = .ok (.invokestatic 111, 3) := by decide +kernel
theorem dX8_readParity_25 : decode cX8_readParity 25 = .ok (.ifCond .ne 5, 3) := by decide +kernel
theorem dX8_readParity_28 : decode cX8_readParity 28 = .ok (.iconst 0, 1) := by decide +kernel
theorem dX8_readParity_29 : decode cX8_readParity 29 = .ok (.ireturn, 1) := by decide +kernel
theorem dX8_readParity_30 : decode cX8_readParity 30 = .ok (.aload_n 0, 1) := by decide +kernel
theorem dX8_readParity_31 : decode cX8_readParity 31 = .ok (.dup, 1) := by decide +kernel
theorem dX8_readParity_32 : decode cX8_readParity 32 = .ok (.getfield 122, 3) := by decide +kernel
theorem dX8_readParity_35 : decode cX8_readParity 35 = .ok (.iconst 1, 1) := by decide +kernel
theorem dX8_readParity_36 : decode cX8_readParity 36 = .ok (.iadd, 1) := by decide +kernel
theorem dX8_readParity_37 : decode cX8_readParity 37 = .ok (.putfield 122, 3) := by decide +kernel
theorem dX8_readParity_40 : decode cX8_readParity 40 = .ok (.iconst 0, 1) := by decide +kernel
theorem dX8_readParity_41 : decode cX8_readParity 41 = .ok (.istore_n 2, 1) := by decide +kernel
theorem dX8_readParity_42 : decode cX8_readParity 42 = .ok (.aload_n 0, 1) := by decide +kernel
theorem dX8_readParity_43 : decode cX8_readParity 43 = .ok (.invokevirtual 125, 3) := by decide +kernel
theorem dX8_readParity_46 : decode cX8_readParity 46 = .ok (.i2l, 1) := by decide +kernel
theorem dX8_readParity_47 : decode cX8_readParity 47 = .ok (.ldc2_w 129, 3) := by decide +kernel
theorem dX8_readParity_50 : decode cX8_readParity 50 = .ok (.ldc2_w 131, 3) := by decide +kernel
theorem dX8_readParity_53 : decode cX8_readParity 53 = .ok (.invokestatic 111, 3) := by decide +kernel
theorem dX8_readParity_56 : decode cX8_readParity 56 = .ok (.ifCond .eq 42, 3) := by decide +kernel
theorem dX8_readParity_59 : decode cX8_readParity 59 = .ok (.iload_n 2, 1) := by decide +kernel
theorem dX8_readParity_60 : decode cX8_readParity 60 = .ok (.aload_n 0, 1) := by decide +kernel
theorem dX8_readParity_61 : decode cX8_readParity 61 = .ok (.invokevirtual 125, 3) := by decide +kernel
theorem dX8_readParity_64 : decode cX8_readParity 64 = .ok (.bipush 97, 2) := by decide +kernel
theorem dX8_readParity_66 : decode cX8_readParity 66 = .ok (.isub, 1) := by decide +kernel
theorem dX8_readParity_67 : decode cX8_readParity 67 = .ok (.invokestatic 54, 3) := by decide +kernel
theorem dX8_readParity_70 : decode cX8_readParity 70 = .ok (.ifCond .ne 28, 3) := by decide +kernel
theorem dX8_readParity_73 : decode cX8_readParity 73 = .ok (.iload_n 2, 1) := by decide +kernel
theorem dX8_readParity_74 : decode cX8_readParity 74 = .ok (.iconst 1, 1) := by decide +kernel
theorem dX8_readParity_75 : decode cX8_readParity 75 = .ok (.aload_n 0, 1) := by decide +kernel
theorem dX8_readParity_76 : decode cX8_readParity 76 = .ok (.invokevirtual 125, 3) := by decide +kernel
theorem dX8_readParity_79 : decode cX8_readParity 79 = .ok (.bipush 97, 2) := by decide +kernel
theorem dX8_readParity_81 : decode cX8_readParity 81 = .ok (.isub, 1) := by decide +kernel
theorem dX8_readParity_82 : decode cX8_readParity 82 = .ok (.ishl, 1) := by decide +kernel
theorem dX8_readParity_83 : decode cX8_readParity 83 = .ok (.ior, 1) := by decide +kernel
theorem dX8_readParity_84 : decode cX8_readParity 84 = .ok (.istore_n 2, 1) := by decide +kernel
theorem dX8_readParity_85 : decode cX8_readParity 85 = .ok (.aload_n 0, 1) := by decide +kernel
theorem dX8_readParity_86 : decode cX8_readParity 86 = .ok (.dup, 1) := by decide +kernel
theorem dX8_readParity_87 : decode cX8_readParity 87 = .ok (.getfield 122, 3) := by decide +kernel
theorem dX8_readParity_90 : decode cX8_readParity 90 = .ok (.iconst 1, 1) := by decide +kernel
theorem dX8_readParity_91 : decode cX8_readParity 91 = .ok (.iadd, 1) := by decide +kernel
theorem dX8_readParity_92 : decode cX8_readParity 92 = .ok (.putfield 122, 3) := by decide +kernel
theorem dX8_readParity_95 : decode cX8_readParity 95 = .ok (.goto (-53), 3) := by decide +kernel
theorem dX8_readParity_98 : decode cX8_readParity 98 = .ok (.aload_n 0, 1) := by decide +kernel
theorem dX8_readParity_99 : decode cX8_readParity 99 = .ok (.getfield 45, 3) := by decide +kernel
theorem dX8_readParity_102 : decode cX8_readParity 102 = .ok (.iconst 1, 1) := by decide +kernel
theorem dX8_readParity_103 : decode cX8_readParity 103 = .ok (.iload_n 2, 1) := by decide +kernel
theorem dX8_readParity_104 : decode cX8_readParity 104 = .ok (.iload_n 1, 1) := by decide +kernel
theorem dX8_readParity_105 : decode cX8_readParity 105 = .ok (.invokestatic 133, 3) := by decide +kernel
theorem dX8_readParity_108 : decode cX8_readParity 108 = .ok (.iload_n 2, 1) := by decide +kernel
theorem dX8_readParity_109 : decode cX8_readParity 109 = .ok (.ifCond .eq 16, 3) := by decide +kernel
theorem dX8_readParity_112 : decode cX8_readParity 112 = .ok (.aload_n 0, 1) := by decide +kernel
theorem dX8_readParity_113 : decode cX8_readParity 113 = .ok (.invokevirtual 125, 3) := by decide +kernel
theorem dX8_readParity_116 : decode cX8_readParity 116 = .ok (.bipush 59, 2) := by decide +kernel
theorem dX8_readParity_118 : decode cX8_readParity 118 = .ok (.if_icmp .ne 7, 3) := by decide +kernel
theorem dX8_readParity_121 : decode cX8_readParity 121 = .ok (.iconst 1, 1) := by decide +kernel
theorem dX8_readParity_122 : decode cX8_readParity 122 = .ok (.goto 4, 3) := by decide +kernel
theorem dX8_readParity_125 : decode cX8_readParity 125 = .ok (.iconst 0, 1) := by decide +kernel
theorem dX8_readParity_126 : decode cX8_readParity 126 = .ok (.ireturn, 1) := by decide +kernel
theorem dX8_readClause_0 : decode cX8_readClause 0 = .ok (.iconst 0, 1) := by decide +kernel
theorem dX8_readClause_1 : decode cX8_readClause 1 = .ok (.istore_n 1, 1) := by decide +kernel
theorem dX8_readClause_2 : decode cX8_readClause 2 = .ok (.iconst 0, 1) := by decide +kernel
theorem dX8_readClause_3 : decode cX8_readClause 3 = .ok (.istore_n 2, 1) := by decide +kernel
theorem dX8_readClause_4 : decode cX8_readClause 4 = .ok (.iconst 1, 1) := by decide +kernel
theorem dX8_readClause_5 : decode cX8_readClause 5 = .ok (.istore_n 3, 1) := by decide +kernel
theorem dX8_readClause_6 : decode cX8_readClause 6 = .ok (.iload_n 3, 1) := by decide +kernel
theorem dX8_readClause_7 : decode cX8_readClause 7 = .ok (.ifCond .eq 136, 3) := by decide +kernel
theorem dX8_readClause_10 : decode cX8_readClause 10 = .ok (.aload_n 0, 1) := by decide +kernel
theorem dX8_readClause_11 : decode cX8_readClause 11 = .ok (.invokevirtual 125, 3) := by decide +kernel
theorem dX8_readClause_14 : decode cX8_readClause 14 = .ok (.istore 4, 2) := by decide +kernel
theorem dX8_readClause_16 : decode cX8_readClause 16 = .ok (.iload 4, 2) := by decide +kernel
theorem dX8_readClause_18 : decode cX8_readClause 18 = .ok (.i2l, 1) := by decide +kernel
theorem dX8_readClause_19 : decode cX8_readClause 19 = .ok (.ldc2_w 129, 3) := by decide +kernel
theorem dX8_readClause_22 : decode cX8_readClause 22 = .ok (.ldc2_w 131, 3) := by decide +kernel
theorem dX8_readClause_25 : decode cX8_readClause 25 = .ok (.invokestatic 111, 3) := by decide +kernel
theorem dX8_readClause_28 : decode cX8_readClause 28 = .ok (.ifCond .eq 11, 3) := by decide +kernel
theorem dX8_readClause_31 : decode cX8_readClause 31 = .ok (.iload 4, 2) := by decide +kernel
theorem dX8_readClause_33 : decode cX8_readClause 33 = .ok (.bipush 97, 2) := by decide +kernel
theorem dX8_readClause_35 : decode cX8_readClause 35 = .ok (.isub, 1) := by decide +kernel
theorem dX8_readClause_36 : decode cX8_readClause 36 = .ok (.goto 28, 3) := by decide +kernel
theorem dX8_readClause_39 : decode cX8_readClause 39 = .ok (.iload 4, 2) := by decide +kernel
theorem dX8_readClause_41 : decode cX8_readClause 41 = .ok (.i2l, 1) := by decide +kernel
theorem dX8_readClause_42 : decode cX8_readClause 42 = .ok (.ldc2_w 137, 3) := by decide +kernel
theorem dX8_readClause_45 : decode cX8_readClause 45 = .ok (.ldc2_w 139, 3) := by decide +kernel
theorem dX8_readClause_48 : decode cX8_readClause 48 = .ok (.invokestatic 111, 3) := by decide +kernel
theorem dX8_readClause_51 : decode cX8_readClause 51 = .ok (.ifCond .eq 11, 3) := by decide +kernel
theorem dX8_readClause_54 : decode cX8_readClause 54 = .ok (.iload 4, 2) := by decide +kernel
theorem dX8_readClause_56 : decode cX8_readClause 56 = .ok (.bipush 65, 2) := by decide +kernel
theorem dX8_readClause_58 : decode cX8_readClause 58 = .ok (.isub, 1) := by decide +kernel
theorem dX8_readClause_59 : decode cX8_readClause 59 = .ok (.goto 5, 3) := by decide +kernel
theorem dX8_readClause_62 : decode cX8_readClause 62 = .ok (.bipush (-9), 2) := by decide +kernel
theorem dX8_readClause_64 : decode cX8_readClause 64 = .ok (.istore 5, 2) := by decide +kernel
theorem dX8_readClause_66 : decode cX8_readClause 66 = .ok (.iload 5, 2) := by decide +kernel
theorem dX8_readClause_68 : decode cX8_readClause 68 = .ok (.bipush (-9), 2) := by decide +kernel
theorem dX8_readClause_70 : decode cX8_readClause 70 = .ok (.if_icmp .eq 18, 3) := by decide +kernel
theorem dX8_readClause_73 : decode cX8_readClause 73 = .ok (.iload_n 1, 1) := by decide +kernel
theorem dX8_readClause_74 : decode cX8_readClause 74 = .ok (.iload_n 2, 1) := by decide +kernel
theorem dX8_readClause_75 : decode cX8_readClause 75 = .ok (.ior, 1) := by decide +kernel
theorem dX8_readClause_76 : decode cX8_readClause 76 = .ok (.iload 5, 2) := by decide +kernel
theorem dX8_readClause_78 : decode cX8_readClause 78 = .ok (.invokestatic 54, 3) := by decide +kernel
theorem dX8_readClause_81 : decode cX8_readClause 81 = .ok (.ifCond .ne 7, 3) := by decide +kernel
theorem dX8_readClause_84 : decode cX8_readClause 84 = .ok (.iconst 1, 1) := by decide +kernel
theorem dX8_readClause_85 : decode cX8_readClause 85 = .ok (.goto 4, 3) := by decide +kernel
theorem dX8_readClause_88 : decode cX8_readClause 88 = .ok (.iconst 0, 1) := by decide +kernel
theorem dX8_readClause_89 : decode cX8_readClause 89 = .ok (.istore_n 3, 1) := by decide +kernel
theorem dX8_readClause_90 : decode cX8_readClause 90 = .ok (.iload_n 3, 1) := by decide +kernel
theorem dX8_readClause_91 : decode cX8_readClause 91 = .ok (.ifCond .eq 49, 3) := by decide +kernel
theorem dX8_readClause_94 : decode cX8_readClause 94 = .ok (.iload_n 1, 1) := by decide +kernel
theorem dX8_readClause_95 : decode cX8_readClause 95 = .ok (.iload 4, 2) := by decide +kernel
theorem dX8_readClause_97 : decode cX8_readClause 97 = .ok (.bipush 97, 2) := by decide +kernel
theorem dX8_readClause_99 : decode cX8_readClause 99 = .ok (.if_icmp .lt 10, 3) := by decide +kernel
theorem dX8_readClause_102 : decode cX8_readClause 102 = .ok (.iconst 1, 1) := by decide +kernel
theorem dX8_readClause_103 : decode cX8_readClause 103 = .ok (.iload 5, 2) := by decide +kernel
theorem dX8_readClause_105 : decode cX8_readClause 105 = .ok (.ishl, 1) := by decide +kernel
theorem dX8_readClause_106 : decode cX8_readClause 106 = .ok (.goto 4, 3) := by decide +kernel
theorem dX8_readClause_109 : decode cX8_readClause 109 = .ok (.iconst 0, 1) := by decide +kernel
theorem dX8_readClause_110 : decode cX8_readClause 110 = .ok (.ior, 1) := by decide +kernel
theorem dX8_readClause_111 : decode cX8_readClause 111 = .ok (.istore_n 1, 1) := by decide +kernel
theorem dX8_readClause_112 : decode cX8_readClause 112 = .ok (.iload_n 2, 1) := by decide +kernel
theorem dX8_readClause_113 : decode cX8_readClause 113 = .ok (.iload 4, 2) := by decide +kernel
theorem dX8_readClause_115 : decode cX8_readClause 115 = .ok (.bipush 97, 2) := by decide +kernel
theorem dX8_readClause_117 : decode cX8_readClause 117 = .ok (.if_icmp .lt 7, 3) := by decide +kernel
theorem dX8_readClause_120 : decode cX8_readClause 120 = .ok (.iconst 0, 1) := by decide +kernel
theorem dX8_readClause_121 : decode cX8_readClause 121 = .ok (.goto 7, 3) := by decide +kernel
theorem dX8_readClause_124 : decode cX8_readClause 124 = .ok (.iconst 1, 1) := by decide +kernel
theorem dX8_readClause_125 : decode cX8_readClause 125 = .ok (.iload 5, 2) := by decide +kernel
theorem dX8_readClause_127 : decode cX8_readClause 127 = .ok (.ishl, 1) := by decide +kernel
theorem dX8_readClause_128 : decode cX8_readClause 128 = .ok (.ior, 1) := by decide +kernel
theorem dX8_readClause_129 : decode cX8_readClause 129 = .ok (.istore_n 2, 1) := by decide +kernel
theorem dX8_readClause_130 : decode cX8_readClause 130 = .ok (.aload_n 0, 1) := by decide +kernel
theorem dX8_readClause_131 : decode cX8_readClause 131 = .ok (.dup, 1) := by decide +kernel
theorem dX8_readClause_132 : decode cX8_readClause 132 = .ok (.getfield 122, 3) := by decide +kernel
theorem dX8_readClause_135 : decode cX8_readClause 135 = .ok (.iconst 1, 1) := by decide +kernel
theorem dX8_readClause_136 : decode cX8_readClause 136 = .ok (.iadd, 1) := by decide +kernel
theorem dX8_readClause_137 : decode cX8_readClause 137 = .ok (.putfield 122, 3) := by decide +kernel
theorem dX8_readClause_140 : decode cX8_readClause 140 = .ok (.goto (-134), 3) := by decide +kernel
theorem dX8_readClause_143 : decode cX8_readClause 143 = .ok (.aload_n 0, 1) := by decide +kernel
theorem dX8_readClause_144 : decode cX8_readClause 144 = .ok (.getfield 45, 3) := by decide +kernel
theorem dX8_readClause_147 : decode cX8_readClause 147 = .ok (.iconst 0, 1) := by decide +kernel
theorem dX8_readClause_148 : decode cX8_readClause 148 = .ok (.iload_n 1, 1) := by decide +kernel
theorem dX8_readClause_149 : decode cX8_readClause 149 = .ok (.iload_n 2, 1) := by decide +kernel
theorem dX8_readClause_150 : decode cX8_readClause 150 = .ok (.invokestatic 133, 3) := by decide +kernel
theorem dX8_readClause_153 : decode cX8_readClause 153 = .ok (.iload_n 1, 1) := by decide +kernel
theorem dX8_readClause_154 : decode cX8_readClause 154 = .ok (.iload_n 2, 1) := by decide +kernel
theorem dX8_readClause_155 : decode cX8_readClause 155 = .ok (.ior, 1) := by decide +kernel
theorem dX8_readClause_156 : decode cX8_readClause 156 = .ok (.ifCond .eq 16, 3) := by decide +kernel
theorem dX8_readClause_159 : decode cX8_readClause 159 = .ok (.aload_n 0, 1) := by decide +kernel
theorem dX8_readClause_160 : decode cX8_readClause 160 = .ok (.invokevirtual 125, 3) := by decide +kernel
theorem dX8_readClause_163 : decode cX8_readClause 163 = .ok (.bipush 59, 2) := by decide +kernel
theorem dX8_readClause_165 : decode cX8_readClause 165 = .ok (.if_icmp .ne 7, 3) := by decide +kernel
theorem dX8_readClause_168 : decode cX8_readClause 168 = .ok (.iconst 1, 1) := by decide +kernel
theorem dX8_readClause_169 : decode cX8_readClause 169 = .ok (.goto 4, 3) := by decide +kernel
theorem dX8_readClause_172 : decode cX8_readClause 172 = .ok (.iconst 0, 1) := by decide +kernel
theorem dX8_readClause_173 : decode cX8_readClause 173 = .ok (.ireturn, 1) := by decide +kernel
theorem dX8_readText_0 : decode cX8_readText 0 = .ok (.iconst 0, 1) := by decide +kernel
theorem dX8_readText_1 : decode cX8_readText 1 = .ok (.istore_n 1, 1) := by decide +kernel
theorem dX8_readText_2 : decode cX8_readText 2 = .ok (.iload_n 1, 1) := by decide +kernel
theorem dX8_readText_3 : decode cX8_readText 3 = .ok (.bipush 82, 2) := by decide +kernel
theorem dX8_readText_5 : decode cX8_readText 5 = .ok (.if_icmp .ge 16, 3) := by decide +kernel
theorem dX8_readText_8 : decode cX8_readText 8 = .ok (.aload_n 0, 1) := by decide +kernel
theorem dX8_readText_9 : decode cX8_readText 9 = .ok (.getfield 45, 3) := by decide +kernel
theorem dX8_readText_12 : decode cX8_readText 12 = .ok (.iload_n 1, 1) := by decide +kernel
theorem dX8_readText_13 : decode cX8_readText 13 = .ok (.iconst 0, 1) := by decide +kernel
theorem dX8_readText_14 : decode cX8_readText 14 = .ok (.iastore, 1) := by decide +kernel
theorem dX8_readText_15 : decode cX8_readText 15 = .ok (.iinc 1 1, 3) := by decide +kernel
theorem dX8_readText_18 : decode cX8_readText 18 = .ok (.goto (-16), 3) := by decide +kernel
theorem dX8_readText_21 : decode cX8_readText 21 = .ok (.aload_n 0, 1) := by decide +kernel
theorem dX8_readText_22 : decode cX8_readText 22 = .ok (.iconst 0, 1) := by decide +kernel
theorem dX8_readText_23 : decode cX8_readText 23 = .ok (.putfield 122, 3) := by decide +kernel
theorem dX8_readText_26 : decode cX8_readText 26 = .ok (.aload_n 0, 1) := by decide +kernel
theorem dX8_readText_27 : decode cX8_readText 27 = .ok (.getfield 122, 3) := by decide +kernel
theorem dX8_readText_30 : decode cX8_readText 30 = .ok (.aload_n 0, 1) := by decide +kernel
theorem dX8_readText_31 : decode cX8_readText 31 = .ok (.getfield 115, 3) := by decide +kernel
theorem dX8_readText_34 : decode cX8_readText 34 = .ok (.if_icmp .ge 62, 3) := by decide +kernel
theorem dX8_readText_37 : decode cX8_readText 37 = .ok (.aload_n 0, 1) := by decide +kernel
theorem dX8_readText_38 : decode cX8_readText 38 = .ok (.getfield 45, 3) := by decide +kernel
theorem dX8_readText_41 : decode cX8_readText 41 = .ok (.iconst 0, 1) := by decide +kernel
theorem dX8_readText_42 : decode cX8_readText 42 = .ok (.iaload, 1) := by decide +kernel
theorem dX8_readText_43 : decode cX8_readText 43 = .ok (.bipush 24, 2) := by decide +kernel
theorem dX8_readText_45 : decode cX8_readText 45 = .ok (.if_icmp .ne 8, 3) := by decide +kernel
theorem dX8_readText_48 : decode cX8_readText 48 = .ok (.aload_n 0, 1) := by decide +kernel
theorem dX8_readText_49 : decode cX8_readText 49 = .ok (.getfield 122, 3) := by decide +kernel
theorem dX8_readText_52 : decode cX8_readText 52 = .ok (.ireturn, 1) := by decide +kernel
theorem dX8_readText_53 : decode cX8_readText 53 = .ok (.aload_n 0, 1) := by decide +kernel
theorem dX8_readText_54 : decode cX8_readText 54 = .ok (.invokevirtual 125, 3) := by decide +kernel
theorem dX8_readText_57 : decode cX8_readText 57 = .ok (.bipush 61, 2) := by decide +kernel
theorem dX8_readText_59 : decode cX8_readText 59 = .ok (.if_icmp .ne 10, 3) := by decide +kernel
theorem dX8_readText_62 : decode cX8_readText 62 = .ok (.aload_n 0, 1) := by decide +kernel
theorem dX8_readText_63 : decode cX8_readText 63 = .ok (.invokevirtual 141, 3) := by decide +kernel
theorem dX8_readText_66 : decode cX8_readText 66 = .ok (.goto 7, 3) := by decide +kernel
theorem dX8_readText_69 : decode cX8_readText 69 = .ok (.aload_n 0, 1) := by decide +kernel
theorem dX8_readText_70 : decode cX8_readText 70 = .ok (.invokevirtual 145, 3) := by decide +kernel
theorem dX8_readText_73 : decode cX8_readText 73 = .ok (.istore_n 1, 1) := by decide +kernel
theorem dX8_readText_74 : decode cX8_readText 74 = .ok (.iload_n 1, 1) := by decide +kernel
theorem dX8_readText_75 : decode cX8_readText 75 = .ok (.ifCond .ne 8, 3) := by decide +kernel
theorem dX8_readText_78 : decode cX8_readText 78 = .ok (.aload_n 0, 1) := by decide +kernel
theorem dX8_readText_79 : decode cX8_readText 79 = .ok (.getfield 122, 3) := by decide +kernel
theorem dX8_readText_82 : decode cX8_readText 82 = .ok (.ireturn, 1) := by decide +kernel
theorem dX8_readText_83 : decode cX8_readText 83 = .ok (.aload_n 0, 1) := by decide +kernel
theorem dX8_readText_84 : decode cX8_readText 84 = .ok (.dup, 1) := by decide +kernel
theorem dX8_readText_85 : decode cX8_readText 85 = .ok (.getfield 122, 3) := by decide +kernel
theorem dX8_readText_88 : decode cX8_readText 88 = .ok (.iconst 1, 1) := by decide +kernel
theorem dX8_readText_89 : decode cX8_readText 89 = .ok (.iadd, 1) := by decide +kernel
theorem dX8_readText_90 : decode cX8_readText 90 = .ok (.putfield 122, 3) := by decide +kernel
theorem dX8_readText_93 : decode cX8_readText 93 = .ok (.goto (-67), 3) := by decide +kernel
theorem dX8_readText_96 : decode cX8_readText 96 = .ok (.bipush (-9), 2) := by decide +kernel
theorem dX8_readText_98 : decode cX8_readText 98 = .ok (.ireturn, 1) := by decide +kernel
theorem dX8_errorPosition_0 : decode cX8_errorPosition 0 = .ok (.aload_n 0, 1) := by decide +kernel
theorem dX8_errorPosition_1 : decode cX8_errorPosition 1 = .ok (.iconst 0, 1) := by decide +kernel
theorem dX8_errorPosition_2 : decode cX8_errorPosition 2 = .ok (.putfield 51, 3) := by decide +kernel
theorem dX8_errorPosition_5 : decode cX8_errorPosition 5 = .ok (.aload_n 0, 1) := by decide +kernel
theorem dX8_errorPosition_6 : decode cX8_errorPosition 6 = .ok (.invokevirtual 148, 3) := by decide +kernel
theorem dX8_errorPosition_9 : decode cX8_errorPosition 9 = .ok (.ireturn, 1) := by decide +kernel
theorem dX8_load_0 : decode cX8_load 0 = .ok (.aload_n 0, 1) := by decide +kernel
theorem dX8_load_1 : decode cX8_load 1 = .ok (.aload_n 0, 1) := by decide +kernel
theorem dX8_load_2 : decode cX8_load 2 = .ok (.invokevirtual 148, 3) := by decide +kernel
theorem dX8_load_5 : decode cX8_load 5 = .ok (.bipush (-9), 2) := by decide +kernel
theorem dX8_load_7 : decode cX8_load 7 = .ok (.if_icmp .ne 7, 3) := by decide +kernel
theorem dX8_load_10 : decode cX8_load 10 = .ok (.iconst 0, 1) := by decide +kernel
theorem dX8_load_11 : decode cX8_load 11 = .ok (.goto 4, 3) := by decide +kernel
theorem dX8_load_14 : decode cX8_load 14 = .ok (.iconst 1, 1) := by decide +kernel
theorem dX8_load_15 : decode cX8_load 15 = .ok (.invokevirtual 118, 3) := by decide +kernel
theorem dX8_load_18 : decode cX8_load 18 = .ok (.ifCond .eq 5, 3) := by decide +kernel
theorem dX8_load_21 : decode cX8_load 21 = .ok (.iconst 0, 1) := by decide +kernel
theorem dX8_load_22 : decode cX8_load 22 = .ok (.ireturn, 1) := by decide +kernel
theorem dX8_load_23 : decode cX8_load 23 = .ok (.aload_n 0, 1) := by decide +kernel
theorem dX8_load_24 : decode cX8_load 24 = .ok (.getfield 45, 3) := by decide +kernel
theorem dX8_load_27 : decode cX8_load 27 = .ok (.aload_n 0, 1) := by decide +kernel
theorem dX8_load_28 : decode cX8_load 28 = .ok (.getfield 7, 3) := by decide +kernel
theorem dX8_load_31 : decode cX8_load 31 = .ok (.invokestatic 102, 3) := by decide +kernel
theorem dX8_load_34 : decode cX8_load 34 = .ok (.aload_n 0, 1) := by decide +kernel
theorem dX8_load_35 : decode cX8_load 35 = .ok (.aload_n 0, 1) := by decide +kernel
theorem dX8_load_36 : decode cX8_load 36 = .ok (.getfield 7, 3) := by decide +kernel
theorem dX8_load_39 : decode cX8_load 39 = .ok (.invokevirtual 106, 3) := by decide +kernel
theorem dX8_load_42 : decode cX8_load 42 = .ok (.aload_n 0, 1) := by decide +kernel
theorem dX8_load_43 : decode cX8_load 43 = .ok (.iconst 0, 1) := by decide +kernel
theorem dX8_load_44 : decode cX8_load 44 = .ok (.putfield 99, 3) := by decide +kernel
theorem dX8_load_47 : decode cX8_load 47 = .ok (.aload_n 0, 1) := by decide +kernel
theorem dX8_load_48 : decode cX8_load 48 = .ok (.getfield 22, 3) := by decide +kernel
theorem dX8_load_51 : decode cX8_load 51 = .ok (.iconst 0, 1) := by decide +kernel
theorem dX8_load_52 : decode cX8_load 52 = .ok (.iconst 0, 1) := by decide +kernel
theorem dX8_load_53 : decode cX8_load 53 = .ok (.bastore, 1) := by decide +kernel
theorem dX8_load_54 : decode cX8_load 54 = .ok (.aload_n 0, 1) := by decide +kernel
theorem dX8_load_55 : decode cX8_load 55 = .ok (.getfield 22, 3) := by decide +kernel
theorem dX8_load_58 : decode cX8_load 58 = .ok (.iconst 1, 1) := by decide +kernel
theorem dX8_load_59 : decode cX8_load 59 = .ok (.iconst 0, 1) := by decide +kernel
theorem dX8_load_60 : decode cX8_load 60 = .ok (.bastore, 1) := by decide +kernel
theorem dX8_load_61 : decode cX8_load 61 = .ok (.aload_n 0, 1) := by decide +kernel
theorem dX8_load_62 : decode cX8_load 62 = .ok (.getfield 7, 3) := by decide +kernel
theorem dX8_load_65 : decode cX8_load 65 = .ok (.iconst 0, 1) := by decide +kernel
theorem dX8_load_66 : decode cX8_load 66 = .ok (.iaload, 1) := by decide +kernel
theorem dX8_load_67 : decode cX8_load 67 = .ok (.ireturn, 1) := by decide +kernel
theorem dX8_isConstraint_0 : decode cX8_isConstraint 0 = .ok (.iload_n 1, 1) := by decide +kernel
theorem dX8_isConstraint_1 : decode cX8_isConstraint 1 = .ok (.i2l, 1) := by decide +kernel
theorem dX8_isConstraint_2 : decode cX8_isConstraint 2 = .ok (.lconst 0, 1) := by decide +kernel
theorem dX8_isConstraint_3 : decode cX8_isConstraint 3 = .ok (.aload_n 0, 1) := by decide +kernel
theorem dX8_isConstraint_4 : decode cX8_isConstraint 4 = .ok (.getfield 7, 3) := by decide +kernel
theorem dX8_isConstraint_7 : decode cX8_isConstraint 7 = .ok (.iconst 0, 1) := by decide +kernel
theorem dX8_isConstraint_8 : decode cX8_isConstraint 8 = .ok (.iaload, 1) := by decide +kernel
theorem dX8_isConstraint_9 : decode cX8_isConstraint 9 = .ok (.iconst 1, 1) := by decide +kernel
theorem dX8_isConstraint_10 : decode cX8_isConstraint 10 = .ok (.isub, 1) := by decide +kernel
theorem dX8_isConstraint_11 : decode cX8_isConstraint 11 = .ok (.i2l, 1) := by decide +kernel
theorem dX8_isConstraint_12 : decode cX8_isConstraint 12 = .ok (.invokestatic 111, 3) := by decide +kernel
theorem dX8_isConstraint_15 : decode cX8_isConstraint 15 = .ok (.ireturn, 1) := by decide +kernel
theorem dX8_constraintCount_0 : decode cX8_constraintCount 0 = .ok (.aload_n 0, 1) := by decide +kernel
theorem dX8_constraintCount_1 : decode cX8_constraintCount 1 = .ok (.iconst 0, 1) := by decide +kernel
theorem dX8_constraintCount_2 : decode cX8_constraintCount 2 = .ok (.putfield 51, 3) := by decide +kernel
theorem dX8_constraintCount_5 : decode cX8_constraintCount 5 = .ok (.aload_n 0, 1) := by decide +kernel
theorem dX8_constraintCount_6 : decode cX8_constraintCount 6 = .ok (.getfield 7, 3) := by decide +kernel
theorem dX8_constraintCount_9 : decode cX8_constraintCount 9 = .ok (.iconst 0, 1) := by decide +kernel
theorem dX8_constraintCount_10 : decode cX8_constraintCount 10 = .ok (.iaload, 1) := by decide +kernel
theorem dX8_constraintCount_11 : decode cX8_constraintCount 11 = .ok (.ireturn, 1) := by decide +kernel
theorem dX8_isParity_0 : decode cX8_isParity 0 = .ok (.aload_n 0, 1) := by decide +kernel
theorem dX8_isParity_1 : decode cX8_isParity 1 = .ok (.aload_n 0, 1) := by decide +kernel
theorem dX8_isParity_2 : decode cX8_isParity 2 = .ok (.iload_n 1, 1) := by decide +kernel
theorem dX8_isParity_3 : decode cX8_isParity 3 = .ok (.invokevirtual 151, 3) := by decide +kernel
theorem dX8_isParity_6 : decode cX8_isParity 6 = .ok (.ifCond .eq 7, 3) := by decide +kernel
theorem dX8_isParity_9 : decode cX8_isParity 9 = .ok (.iconst 0, 1) := by decide +kernel
theorem dX8_isParity_10 : decode cX8_isParity 10 = .ok (.goto 4, 3) := by decide +kernel
theorem dX8_isParity_13 : decode cX8_isParity 13 = .ok (.iconst 1, 1) := by decide +kernel
theorem dX8_isParity_14 : decode cX8_isParity 14 = .ok (.invokevirtual 118, 3) := by decide +kernel
theorem dX8_isParity_17 : decode cX8_isParity 17 = .ok (.ifCond .eq 5, 3) := by decide +kernel
theorem dX8_isParity_20 : decode cX8_isParity 20 = .ok (.iconst 0, 1) := by decide +kernel
theorem dX8_isParity_21 : decode cX8_isParity 21 = .ok (.ireturn, 1) := by decide +kernel
theorem dX8_isParity_22 : decode cX8_isParity 22 = .ok (.aload_n 0, 1) := by decide +kernel
theorem dX8_isParity_23 : decode cX8_isParity 23 = .ok (.getfield 7, 3) := by decide +kernel
theorem dX8_isParity_26 : decode cX8_isParity 26 = .ok (.iconst 1, 1) := by decide +kernel
theorem dX8_isParity_27 : decode cX8_isParity 27 = .ok (.iload_n 1, 1) := by decide +kernel
theorem dX8_isParity_28 : decode cX8_isParity 28 = .ok (.iadd, 1) := by decide +kernel
theorem dX8_isParity_29 : decode cX8_isParity 29 = .ok (.iaload, 1) := by decide +kernel
theorem dX8_isParity_30 : decode cX8_isParity 30 = .ok (.iconst 1, 1) := by decide +kernel
theorem dX8_isParity_31 : decode cX8_isParity 31 = .ok (.if_icmp .ne 7, 3) := by decide +kernel
theorem dX8_isParity_34 : decode cX8_isParity 34 = .ok (.iconst 1, 1) := by decide +kernel
theorem dX8_isParity_35 : decode cX8_isParity 35 = .ok (.goto 4, 3) := by decide +kernel
theorem dX8_isParity_38 : decode cX8_isParity 38 = .ok (.iconst 0, 1) := by decide +kernel
theorem dX8_isParity_39 : decode cX8_isParity 39 = .ok (.ireturn, 1) := by decide +kernel
theorem dX8_variables_0 : decode cX8_variables 0 = .ok (.aload_n 0, 1) := by decide +kernel
theorem dX8_variables_1 : decode cX8_variables 1 = .ok (.aload_n 0, 1) := by decide +kernel
theorem dX8_variables_2 : decode cX8_variables 2 = .ok (.iload_n 1, 1) := by decide +kernel
theorem dX8_variables_3 : decode cX8_variables 3 = .ok (.invokevirtual 151, 3) := by decide +kernel
theorem dX8_variables_6 : decode cX8_variables 6 = .ok (.ifCond .eq 7, 3) := by decide +kernel
theorem dX8_variables_9 : decode cX8_variables 9 = .ok (.iconst 0, 1) := by decide +kernel
theorem dX8_variables_10 : decode cX8_variables 10 = .ok (.goto 4, 3) := by decide +kernel
theorem dX8_variables_13 : decode cX8_variables 13 = .ok (.iconst 1, 1) := by decide +kernel
theorem dX8_variables_14 : decode cX8_variables 14 = .ok (.invokevirtual 118, 3) := by decide +kernel
theorem dX8_variables_17 : decode cX8_variables 17 = .ok (.ifCond .eq 5, 3) := by decide +kernel
theorem dX8_variables_20 : decode cX8_variables 20 = .ok (.iconst 0, 1) := by decide +kernel
theorem dX8_variables_21 : decode cX8_variables 21 = .ok (.ireturn, 1) := by decide +kernel
theorem dX8_variables_22 : decode cX8_variables 22 = .ok (.aload_n 0, 1) := by decide +kernel
theorem dX8_variables_23 : decode cX8_variables 23 = .ok (.getfield 7, 3) := by decide +kernel
theorem dX8_variables_26 : decode cX8_variables 26 = .ok (.bipush 25, 2) := by decide +kernel
theorem dX8_variables_28 : decode cX8_variables 28 = .ok (.iload_n 1, 1) := by decide +kernel
theorem dX8_variables_29 : decode cX8_variables 29 = .ok (.iadd, 1) := by decide +kernel
theorem dX8_variables_30 : decode cX8_variables 30 = .ok (.iaload, 1) := by decide +kernel
theorem dX8_variables_31 : decode cX8_variables 31 = .ok (.ireturn, 1) := by decide +kernel
theorem dX8_negated_0 : decode cX8_negated 0 = .ok (.aload_n 0, 1) := by decide +kernel
theorem dX8_negated_1 : decode cX8_negated 1 = .ok (.aload_n 0, 1) := by decide +kernel
theorem dX8_negated_2 : decode cX8_negated 2 = .ok (.iload_n 1, 1) := by decide +kernel
theorem dX8_negated_3 : decode cX8_negated 3 = .ok (.invokevirtual 151, 3) := by decide +kernel
theorem dX8_negated_6 : decode cX8_negated 6 = .ok (.ifCond .eq 7, 3) := by decide +kernel
theorem dX8_negated_9 : decode cX8_negated 9 = .ok (.iconst 0, 1) := by decide +kernel
theorem dX8_negated_10 : decode cX8_negated 10 = .ok (.goto 4, 3) := by decide +kernel
theorem dX8_negated_13 : decode cX8_negated 13 = .ok (.iconst 1, 1) := by decide +kernel
theorem dX8_negated_14 : decode cX8_negated 14 = .ok (.invokevirtual 118, 3) := by decide +kernel
theorem dX8_negated_17 : decode cX8_negated 17 = .ok (.ifCond .eq 5, 3) := by decide +kernel
theorem dX8_negated_20 : decode cX8_negated 20 = .ok (.iconst 0, 1) := by decide +kernel
theorem dX8_negated_21 : decode cX8_negated 21 = .ok (.ireturn, 1) := by decide +kernel
theorem dX8_negated_22 : decode cX8_negated 22 = .ok (.aload_n 0, 1) := by decide +kernel
theorem dX8_negated_23 : decode cX8_negated 23 = .ok (.getfield 7, 3) := by decide +kernel
theorem dX8_negated_26 : decode cX8_negated 26 = .ok (.bipush 49, 2) := by decide +kernel
theorem dX8_negated_28 : decode cX8_negated 28 = .ok (.iload_n 1, 1) := by decide +kernel
theorem dX8_negated_29 : decode cX8_negated 29 = .ok (.iadd, 1) := by decide +kernel
theorem dX8_negated_30 : decode cX8_negated 30 = .ok (.iaload, 1) := by decide +kernel
theorem dX8_negated_31 : decode cX8_negated 31 = .ok (.ireturn, 1) := by decide +kernel
theorem dX8_isClause_0 : decode cX8_isClause 0 = .ok (.iload_n 0, 1) := by decide +kernel
theorem dX8_isClause_1 : decode cX8_isClause 1 = .ok (.i2l, 1) := by decide +kernel
theorem dX8_isClause_2 : decode cX8_isClause 2 = .ok (.lconst 0, 1) := by decide +kernel
theorem dX8_isClause_3 : decode cX8_isClause 3 = .ok (.ldc2_w 109, 3) := by decide +kernel
theorem dX8_isClause_6 : decode cX8_isClause 6 = .ok (.invokestatic 111, 3) := by decide +kernel
theorem dX8_isClause_9 : decode cX8_isClause 9 = .ok (.ifCond .eq 25, 3) := by decide +kernel
theorem dX8_isClause_12 : decode cX8_isClause 12 = .ok (.iload_n 1, 1) := by decide +kernel
theorem dX8_isClause_13 : decode cX8_isClause 13 = .ok (.i2l, 1) := by decide +kernel
theorem dX8_isClause_14 : decode cX8_isClause 14 = .ok (.lconst 0, 1) := by decide +kernel
theorem dX8_isClause_15 : decode cX8_isClause 15 = .ok (.ldc2_w 109, 3) := by decide +kernel
theorem dX8_isClause_18 : decode cX8_isClause 18 = .ok (.invokestatic 111, 3) := by decide +kernel
theorem dX8_isClause_21 : decode cX8_isClause 21 = .ok (.ifCond .eq 13, 3) := by decide +kernel
theorem dX8_isClause_24 : decode cX8_isClause 24 = .ok (.iload_n 0, 1) := by decide +kernel
theorem dX8_isClause_25 : decode cX8_isClause 25 = .ok (.iload_n 1, 1) := by decide +kernel
theorem dX8_isClause_26 : decode cX8_isClause 26 = .ok (.iand, 1) := by decide +kernel
theorem dX8_isClause_27 : decode cX8_isClause 27 = .ok (.ifCond .ne 7, 3) := by decide +kernel
theorem dX8_isClause_30 : decode cX8_isClause 30 = .ok (.iconst 1, 1) := by decide +kernel
theorem dX8_isClause_31 : decode cX8_isClause 31 = .ok (.goto 4, 3) := by decide +kernel
theorem dX8_isClause_34 : decode cX8_isClause 34 = .ok (.iconst 0, 1) := by decide +kernel
theorem dX8_isClause_35 : decode cX8_isClause 35 = .ok (.ireturn, 1) := by decide +kernel
theorem dX8_isSum_0 : decode cX8_isSum 0 = .ok (.iload_n 0, 1) := by decide +kernel
theorem dX8_isSum_1 : decode cX8_isSum 1 = .ok (.i2l, 1) := by decide +kernel
theorem dX8_isSum_2 : decode cX8_isSum 2 = .ok (.lconst 0, 1) := by decide +kernel
theorem dX8_isSum_3 : decode cX8_isSum 3 = .ok (.ldc2_w 109, 3) := by decide +kernel
theorem dX8_isSum_6 : decode cX8_isSum 6 = .ok (.invokestatic 111, 3) := by decide +kernel
theorem dX8_isSum_9 : decode cX8_isSum 9 = .ok (.ifCond .eq 17, 3) := by decide +kernel
theorem dX8_isSum_12 : decode cX8_isSum 12 = .ok (.iload_n 1, 1) := by decide +kernel
theorem dX8_isSum_13 : decode cX8_isSum 13 = .ok (.i2l, 1) := by decide +kernel
theorem dX8_isSum_14 : decode cX8_isSum 14 = .ok (.lconst 0, 1) := by decide +kernel
theorem dX8_isSum_15 : decode cX8_isSum 15 = .ok (.lconst 1, 1) := by decide +kernel
theorem dX8_isSum_16 : decode cX8_isSum 16 = .ok (.invokestatic 111, 3) := by decide +kernel
theorem dX8_isSum_19 : decode cX8_isSum 19 = .ok (.ifCond .eq 7, 3) := by decide +kernel
theorem dX8_isSum_22 : decode cX8_isSum 22 = .ok (.iconst 1, 1) := by decide +kernel
theorem dX8_isSum_23 : decode cX8_isSum 23 = .ok (.goto 4, 3) := by decide +kernel
theorem dX8_isSum_26 : decode cX8_isSum 26 = .ok (.iconst 0, 1) := by decide +kernel
theorem dX8_isSum_27 : decode cX8_isSum 27 = .ok (.ireturn, 1) := by decide +kernel
theorem dX8_added_0 : decode cX8_added 0 = .ok (.aload_n 0, 1) := by decide +kernel
theorem dX8_added_1 : decode cX8_added 1 = .ok (.getfield 7, 3) := by decide +kernel
theorem dX8_added_4 : decode cX8_added 4 = .ok (.aload_n 0, 1) := by decide +kernel
theorem dX8_added_5 : decode cX8_added 5 = .ok (.getfield 13, 3) := by decide +kernel
theorem dX8_added_8 : decode cX8_added 8 = .ok (.invokestatic 102, 3) := by decide +kernel
theorem dX8_added_11 : decode cX8_added 11 = .ok (.aload_n 0, 1) := by decide +kernel
theorem dX8_added_12 : decode cX8_added 12 = .ok (.getfield 13, 3) := by decide +kernel
theorem dX8_added_15 : decode cX8_added 15 = .ok (.iload_n 1, 1) := by decide +kernel
theorem dX8_added_16 : decode cX8_added 16 = .ok (.iload_n 2, 1) := by decide +kernel
theorem dX8_added_17 : decode cX8_added 17 = .ok (.iload_n 3, 1) := by decide +kernel
theorem dX8_added_18 : decode cX8_added 18 = .ok (.invokestatic 133, 3) := by decide +kernel
theorem dX8_added_21 : decode cX8_added 21 = .ok (.aload_n 0, 1) := by decide +kernel
theorem dX8_added_22 : decode cX8_added 22 = .ok (.invokevirtual 154, 3) := by decide +kernel
theorem dX8_added_25 : decode cX8_added 25 = .ok (.aload_n 0, 1) := by decide +kernel
theorem dX8_added_26 : decode cX8_added 26 = .ok (.getfield 7, 3) := by decide +kernel
theorem dX8_added_29 : decode cX8_added 29 = .ok (.iconst 0, 1) := by decide +kernel
theorem dX8_added_30 : decode cX8_added 30 = .ok (.iaload, 1) := by decide +kernel
theorem dX8_added_31 : decode cX8_added 31 = .ok (.iconst 1, 1) := by decide +kernel
theorem dX8_added_32 : decode cX8_added 32 = .ok (.isub, 1) := by decide +kernel
theorem dX8_added_33 : decode cX8_added 33 = .ok (.ireturn, 1) := by decide +kernel
theorem dX8_addClause_0 : decode cX8_addClause 0 = .ok (.aload_n 0, 1) := by decide +kernel
theorem dX8_addClause_1 : decode cX8_addClause 1 = .ok (.iload_n 1, 1) := by decide +kernel
theorem dX8_addClause_2 : decode cX8_addClause 2 = .ok (.iload_n 2, 1) := by decide +kernel
theorem dX8_addClause_3 : decode cX8_addClause 3 = .ok (.invokestatic 157, 3) := by decide +kernel
theorem dX8_addClause_6 : decode cX8_addClause 6 = .ok (.ifCond .ne 7, 3) := by decide +kernel
theorem dX8_addClause_9 : decode cX8_addClause 9 = .ok (.iconst 1, 1) := by decide +kernel
theorem dX8_addClause_10 : decode cX8_addClause 10 = .ok (.goto 19, 3) := by decide +kernel
theorem dX8_addClause_13 : decode cX8_addClause 13 = .ok (.aload_n 0, 1) := by decide +kernel
theorem dX8_addClause_14 : decode cX8_addClause 14 = .ok (.getfield 7, 3) := by decide +kernel
theorem dX8_addClause_17 : decode cX8_addClause 17 = .ok (.iconst 0, 1) := by decide +kernel
theorem dX8_addClause_18 : decode cX8_addClause 18 = .ok (.iaload, 1) := by decide +kernel
theorem dX8_addClause_19 : decode cX8_addClause 19 = .ok (.bipush 24, 2) := by decide +kernel
theorem dX8_addClause_21 : decode cX8_addClause 21 = .ok (.if_icmp .ne 7, 3) := by decide +kernel
theorem dX8_addClause_24 : decode cX8_addClause 24 = .ok (.iconst 2, 1) := by decide +kernel
theorem dX8_addClause_25 : decode cX8_addClause 25 = .ok (.goto 4, 3) := by decide +kernel
theorem dX8_addClause_28 : decode cX8_addClause 28 = .ok (.iconst 0, 1) := by decide +kernel
theorem dX8_addClause_29 : decode cX8_addClause 29 = .ok (.invokevirtual 118, 3) := by decide +kernel
theorem dX8_addClause_32 : decode cX8_addClause 32 = .ok (.ifCond .eq 5, 3) := by decide +kernel
theorem dX8_addClause_35 : decode cX8_addClause 35 = .ok (.iconst 0, 1) := by decide +kernel
theorem dX8_addClause_36 : decode cX8_addClause 36 = .ok (.ireturn, 1) := by decide +kernel
theorem dX8_addClause_37 : decode cX8_addClause 37 = .ok (.aload_n 0, 1) := by decide +kernel
theorem dX8_addClause_38 : decode cX8_addClause 38 = .ok (.iconst 0, 1) := by decide +kernel
theorem dX8_addClause_39 : decode cX8_addClause 39 = .ok (.iload_n 1, 1) := by decide +kernel
theorem dX8_addClause_40 : decode cX8_addClause 40 = .ok (.iload_n 2, 1) := by decide +kernel
theorem dX8_addClause_41 : decode cX8_addClause 41 = .ok (.invokevirtual 160, 3) := by decide +kernel
theorem dX8_addClause_44 : decode cX8_addClause 44 = .ok (.ireturn, 1) := by decide +kernel
theorem dX8_addParity_0 : decode cX8_addParity 0 = .ok (.aload_n 0, 1) := by decide +kernel
theorem dX8_addParity_1 : decode cX8_addParity 1 = .ok (.iload_n 1, 1) := by decide +kernel
theorem dX8_addParity_2 : decode cX8_addParity 2 = .ok (.iload_n 2, 1) := by decide +kernel
theorem dX8_addParity_3 : decode cX8_addParity 3 = .ok (.invokestatic 164, 3) := by decide +kernel
theorem dX8_addParity_6 : decode cX8_addParity 6 = .ok (.ifCond .ne 7, 3) := by decide +kernel
theorem dX8_addParity_9 : decode cX8_addParity 9 = .ok (.iconst 1, 1) := by decide +kernel
theorem dX8_addParity_10 : decode cX8_addParity 10 = .ok (.goto 19, 3) := by decide +kernel
theorem dX8_addParity_13 : decode cX8_addParity 13 = .ok (.aload_n 0, 1) := by decide +kernel
theorem dX8_addParity_14 : decode cX8_addParity 14 = .ok (.getfield 7, 3) := by decide +kernel
theorem dX8_addParity_17 : decode cX8_addParity 17 = .ok (.iconst 0, 1) := by decide +kernel
theorem dX8_addParity_18 : decode cX8_addParity 18 = .ok (.iaload, 1) := by decide +kernel
theorem dX8_addParity_19 : decode cX8_addParity 19 = .ok (.bipush 24, 2) := by decide +kernel
theorem dX8_addParity_21 : decode cX8_addParity 21 = .ok (.if_icmp .ne 7, 3) := by decide +kernel
theorem dX8_addParity_24 : decode cX8_addParity 24 = .ok (.iconst 2, 1) := by decide +kernel
theorem dX8_addParity_25 : decode cX8_addParity 25 = .ok (.goto 4, 3) := by decide +kernel
theorem dX8_addParity_28 : decode cX8_addParity 28 = .ok (.iconst 0, 1) := by decide +kernel
theorem dX8_addParity_29 : decode cX8_addParity 29 = .ok (.invokevirtual 118, 3) := by decide +kernel
theorem dX8_addParity_32 : decode cX8_addParity 32 = .ok (.ifCond .eq 5, 3) := by decide +kernel
theorem dX8_addParity_35 : decode cX8_addParity 35 = .ok (.iconst 0, 1) := by decide +kernel
theorem dX8_addParity_36 : decode cX8_addParity 36 = .ok (.ireturn, 1) := by decide +kernel
theorem dX8_addParity_37 : decode cX8_addParity 37 = .ok (.aload_n 0, 1) := by decide +kernel
theorem dX8_addParity_38 : decode cX8_addParity 38 = .ok (.iconst 1, 1) := by decide +kernel
theorem dX8_addParity_39 : decode cX8_addParity 39 = .ok (.iload_n 1, 1) := by decide +kernel
theorem dX8_addParity_40 : decode cX8_addParity 40 = .ok (.iload_n 2, 1) := by decide +kernel
theorem dX8_addParity_41 : decode cX8_addParity 41 = .ok (.invokevirtual 160, 3) := by decide +kernel
theorem dX8_addParity_44 : decode cX8_addParity 44 = .ok (.ireturn, 1) := by decide +kernel
theorem dX8_removeConstraint_0 : decode cX8_removeConstraint 0 = .ok (.aload_n 0, 1) := by decide +kernel
theorem dX8_removeConstraint_1 : decode cX8_removeConstraint 1 = .ok (.aload_n 0, 1) := by decide +kernel
theorem dX8_removeConstraint_2 : decode cX8_removeConstraint 2 = .ok (.iload_n 1, 1) := by decide +kernel
theorem dX8_removeConstraint_3 : decode cX8_removeConstraint 3 = .ok (.invokevirtual 151, 3) := by decide +kernel
theorem dX8_removeConstraint_6 : decode cX8_removeConstraint 6 = .ok (.ifCond .eq 7, 3) := by decide +kernel
theorem dX8_removeConstraint_9 : decode cX8_removeConstraint 9 = .ok (.iconst 0, 1) := by decide +kernel
theorem dX8_removeConstraint_10 : decode cX8_removeConstraint 10 = .ok (.goto 4, 3) := by decide +kernel
theorem dX8_removeConstraint_13 : decode cX8_removeConstraint 13 = .ok (.iconst 1, 1) := by decide +kernel
theorem dX8_removeConstraint_14 : decode cX8_removeConstraint 14 = .ok (.invokevirtual 118, 3) := by decide +kernel
theorem dX8_removeConstraint_17 : decode cX8_removeConstraint 17 = .ok (.ifCond .eq 5, 3) := by decide +kernel
theorem dX8_removeConstraint_20 : decode cX8_removeConstraint 20 = .ok (.iconst 0, 1) := by decide +kernel
theorem dX8_removeConstraint_21 : decode cX8_removeConstraint 21 = .ok (.ireturn, 1) := by decide +kernel
theorem dX8_removeConstraint_22 : decode cX8_removeConstraint 22 = .ok (.aload_n 0, 1) := by decide +kernel
theorem dX8_removeConstraint_23 : decode cX8_removeConstraint 23 = .ok (.getfield 7, 3) := by decide +kernel
theorem dX8_removeConstraint_26 : decode cX8_removeConstraint 26 = .ok (.aload_n 0, 1) := by decide +kernel
theorem dX8_removeConstraint_27 : decode cX8_removeConstraint 27 = .ok (.getfield 13, 3) := by decide +kernel
theorem dX8_removeConstraint_30 : decode cX8_removeConstraint 30 = .ok (.invokestatic 102, 3) := by decide +kernel
theorem dX8_removeConstraint_33 : decode cX8_removeConstraint 33 = .ok (.aload_n 0, 1) := by decide +kernel
theorem dX8_removeConstraint_34 : decode cX8_removeConstraint 34 = .ok (.getfield 13, 3) := by decide +kernel
theorem dX8_removeConstraint_37 : decode cX8_removeConstraint 37 = .ok (.iconst 0, 1) := by decide +kernel
theorem dX8_removeConstraint_38 : decode cX8_removeConstraint 38 = .ok (.dup2, 1) := by decide +kernel
theorem dX8_removeConstraint_39 : decode cX8_removeConstraint 39 = .ok (.iaload, 1) := by decide +kernel
theorem dX8_removeConstraint_40 : decode cX8_removeConstraint 40 = .ok (.iconst 1, 1) := by decide +kernel
theorem dX8_removeConstraint_41 : decode cX8_removeConstraint 41 = .ok (.isub, 1) := by decide +kernel
theorem dX8_removeConstraint_42 : decode cX8_removeConstraint 42 = .ok (.iastore, 1) := by decide +kernel
theorem dX8_removeConstraint_43 : decode cX8_removeConstraint 43 = .ok (.iload_n 1, 1) := by decide +kernel
theorem dX8_removeConstraint_44 : decode cX8_removeConstraint 44 = .ok (.istore_n 2, 1) := by decide +kernel
theorem dX8_removeConstraint_45 : decode cX8_removeConstraint 45 = .ok (.iload_n 2, 1) := by decide +kernel
theorem dX8_removeConstraint_46 : decode cX8_removeConstraint 46 = .ok (.aload_n 0, 1) := by decide +kernel
theorem dX8_removeConstraint_47 : decode cX8_removeConstraint 47 = .ok (.getfield 13, 3) := by decide +kernel
theorem dX8_removeConstraint_50 : decode cX8_removeConstraint 50 = .ok (.iconst 0, 1) := by decide +kernel
theorem dX8_removeConstraint_51 : decode cX8_removeConstraint 51 = .ok (.iaload, 1) := by decide +kernel
theorem dX8_removeConstraint_52 : decode cX8_removeConstraint 52 = .ok (.if_icmp .ge 67, 3) := by decide +kernel
theorem dX8_removeConstraint_55 : decode cX8_removeConstraint 55 = .ok (.aload_n 0, 1) := by decide +kernel
theorem dX8_removeConstraint_56 : decode cX8_removeConstraint 56 = .ok (.getfield 13, 3) := by decide +kernel
theorem dX8_removeConstraint_59 : decode cX8_removeConstraint 59 = .ok (.iconst 1, 1) := by decide +kernel
theorem dX8_removeConstraint_60 : decode cX8_removeConstraint 60 = .ok (.iload_n 2, 1) := by decide +kernel
theorem dX8_removeConstraint_61 : decode cX8_removeConstraint 61 = .ok (.iadd, 1) := by decide +kernel
theorem dX8_removeConstraint_62 : decode cX8_removeConstraint 62 = .ok (.aload_n 0, 1) := by decide +kernel
theorem dX8_removeConstraint_63 : decode cX8_removeConstraint 63 = .ok (.getfield 13, 3) := by decide +kernel
theorem dX8_removeConstraint_66 : decode cX8_removeConstraint 66 = .ok (.iconst 1, 1) := by decide +kernel
theorem dX8_removeConstraint_67 : decode cX8_removeConstraint 67 = .ok (.iload_n 2, 1) := by decide +kernel
theorem dX8_removeConstraint_68 : decode cX8_removeConstraint 68 = .ok (.iadd, 1) := by decide +kernel
theorem dX8_removeConstraint_69 : decode cX8_removeConstraint 69 = .ok (.iconst 1, 1) := by decide +kernel
theorem dX8_removeConstraint_70 : decode cX8_removeConstraint 70 = .ok (.iadd, 1) := by decide +kernel
theorem dX8_removeConstraint_71 : decode cX8_removeConstraint 71 = .ok (.iaload, 1) := by decide +kernel
theorem dX8_removeConstraint_72 : decode cX8_removeConstraint 72 = .ok (.iastore, 1) := by decide +kernel
theorem dX8_removeConstraint_73 : decode cX8_removeConstraint 73 = .ok (.aload_n 0, 1) := by decide +kernel
theorem dX8_removeConstraint_74 : decode cX8_removeConstraint 74 = .ok (.getfield 13, 3) := by decide +kernel
theorem dX8_removeConstraint_77 : decode cX8_removeConstraint 77 = .ok (.bipush 25, 2) := by decide +kernel
theorem dX8_removeConstraint_79 : decode cX8_removeConstraint 79 = .ok (.iload_n 2, 1) := by decide +kernel
theorem dX8_removeConstraint_80 : decode cX8_removeConstraint 80 = .ok (.iadd, 1) := by decide +kernel
theorem dX8_removeConstraint_81 : decode cX8_removeConstraint 81 = .ok (.aload_n 0, 1) := by decide +kernel
theorem dX8_removeConstraint_82 : decode cX8_removeConstraint 82 = .ok (.getfield 13, 3) := by decide +kernel
theorem dX8_removeConstraint_85 : decode cX8_removeConstraint 85 = .ok (.bipush 25, 2) := by decide +kernel
theorem dX8_removeConstraint_87 : decode cX8_removeConstraint 87 = .ok (.iload_n 2, 1) := by decide +kernel
theorem dX8_removeConstraint_88 : decode cX8_removeConstraint 88 = .ok (.iadd, 1) := by decide +kernel
theorem dX8_removeConstraint_89 : decode cX8_removeConstraint 89 = .ok (.iconst 1, 1) := by decide +kernel
theorem dX8_removeConstraint_90 : decode cX8_removeConstraint 90 = .ok (.iadd, 1) := by decide +kernel
theorem dX8_removeConstraint_91 : decode cX8_removeConstraint 91 = .ok (.iaload, 1) := by decide +kernel
theorem dX8_removeConstraint_92 : decode cX8_removeConstraint 92 = .ok (.iastore, 1) := by decide +kernel
theorem dX8_removeConstraint_93 : decode cX8_removeConstraint 93 = .ok (.aload_n 0, 1) := by decide +kernel
theorem dX8_removeConstraint_94 : decode cX8_removeConstraint 94 = .ok (.getfield 13, 3) := by decide +kernel
theorem dX8_removeConstraint_97 : decode cX8_removeConstraint 97 = .ok (.bipush 49, 2) := by decide +kernel
theorem dX8_removeConstraint_99 : decode cX8_removeConstraint 99 = .ok (.iload_n 2, 1) := by decide +kernel
theorem dX8_removeConstraint_100 : decode cX8_removeConstraint 100 = .ok (.iadd, 1) := by decide +kernel
theorem dX8_removeConstraint_101 : decode cX8_removeConstraint 101 = .ok (.aload_n 0, 1) := by decide +kernel
theorem dX8_removeConstraint_102 : decode cX8_removeConstraint 102 = .ok (.getfield 13, 3) := by decide +kernel
theorem dX8_removeConstraint_105 : decode cX8_removeConstraint 105 = .ok (.bipush 49, 2) := by decide +kernel
theorem dX8_removeConstraint_107 : decode cX8_removeConstraint 107 = .ok (.iload_n 2, 1) := by decide +kernel
theorem dX8_removeConstraint_108 : decode cX8_removeConstraint 108 = .ok (.iadd, 1) := by decide +kernel
theorem dX8_removeConstraint_109 : decode cX8_removeConstraint 109 = .ok (.iconst 1, 1) := by decide +kernel
theorem dX8_removeConstraint_110 : decode cX8_removeConstraint 110 = .ok (.iadd, 1) := by decide +kernel
theorem dX8_removeConstraint_111 : decode cX8_removeConstraint 111 = .ok (.iaload, 1) := by decide +kernel
theorem dX8_removeConstraint_112 : decode cX8_removeConstraint 112 = .ok (.iastore, 1) := by decide +kernel
theorem dX8_removeConstraint_113 : decode cX8_removeConstraint 113 = .ok (.iinc 2 1, 3) := by decide +kernel
theorem dX8_removeConstraint_116 : decode cX8_removeConstraint 116 = .ok (.goto (-71), 3) := by decide +kernel
theorem dX8_removeConstraint_119 : decode cX8_removeConstraint 119 = .ok (.aload_n 0, 1) := by decide +kernel
theorem dX8_removeConstraint_120 : decode cX8_removeConstraint 120 = .ok (.invokevirtual 154, 3) := by decide +kernel
theorem dX8_removeConstraint_123 : decode cX8_removeConstraint 123 = .ok (.aload_n 0, 1) := by decide +kernel
theorem dX8_removeConstraint_124 : decode cX8_removeConstraint 124 = .ok (.getfield 7, 3) := by decide +kernel
theorem dX8_removeConstraint_127 : decode cX8_removeConstraint 127 = .ok (.iconst 0, 1) := by decide +kernel
theorem dX8_removeConstraint_128 : decode cX8_removeConstraint 128 = .ok (.iaload, 1) := by decide +kernel
theorem dX8_removeConstraint_129 : decode cX8_removeConstraint 129 = .ok (.ireturn, 1) := by decide +kernel
theorem dX8_resolve_0 : decode cX8_resolve 0 = .ok (.aload_n 0, 1) := by decide +kernel
theorem dX8_resolve_1 : decode cX8_resolve 1 = .ok (.aload_n 0, 1) := by decide +kernel
theorem dX8_resolve_2 : decode cX8_resolve 2 = .ok (.iload_n 1, 1) := by decide +kernel
theorem dX8_resolve_3 : decode cX8_resolve 3 = .ok (.invokevirtual 151, 3) := by decide +kernel
theorem dX8_resolve_6 : decode cX8_resolve 6 = .ok (.ifCond .eq 27, 3) := by decide +kernel
theorem dX8_resolve_9 : decode cX8_resolve 9 = .ok (.aload_n 0, 1) := by decide +kernel
theorem dX8_resolve_10 : decode cX8_resolve 10 = .ok (.iload_n 2, 1) := by decide +kernel
theorem dX8_resolve_11 : decode cX8_resolve 11 = .ok (.invokevirtual 151, 3) := by decide +kernel
theorem dX8_resolve_14 : decode cX8_resolve 14 = .ok (.ifCond .eq 19, 3) := by decide +kernel
theorem dX8_resolve_17 : decode cX8_resolve 17 = .ok (.iload_n 3, 1) := by decide +kernel
theorem dX8_resolve_18 : decode cX8_resolve 18 = .ok (.i2l, 1) := by decide +kernel
theorem dX8_resolve_19 : decode cX8_resolve 19 = .ok (.lconst 0, 1) := by decide +kernel
theorem dX8_resolve_20 : decode cX8_resolve 20 = .ok (.ldc2_w 167, 3) := by decide +kernel
theorem dX8_resolve_23 : decode cX8_resolve 23 = .ok (.invokestatic 111, 3) := by decide +kernel
theorem dX8_resolve_26 : decode cX8_resolve 26 = .ok (.ifCond .eq 7, 3) := by decide +kernel
theorem dX8_resolve_29 : decode cX8_resolve 29 = .ok (.iconst 0, 1) := by decide +kernel
theorem dX8_resolve_30 : decode cX8_resolve 30 = .ok (.goto 4, 3) := by decide +kernel
theorem dX8_resolve_33 : decode cX8_resolve 33 = .ok (.iconst 1, 1) := by decide +kernel
theorem dX8_resolve_34 : decode cX8_resolve 34 = .ok (.invokevirtual 118, 3) := by decide +kernel
theorem dX8_resolve_37 : decode cX8_resolve 37 = .ok (.ifCond .eq 5, 3) := by decide +kernel
theorem dX8_resolve_40 : decode cX8_resolve 40 = .ok (.iconst 0, 1) := by decide +kernel
theorem dX8_resolve_41 : decode cX8_resolve 41 = .ok (.ireturn, 1) := by decide +kernel
theorem dX8_resolve_42 : decode cX8_resolve 42 = .ok (.aload_n 0, 1) := by decide +kernel
theorem dX8_resolve_43 : decode cX8_resolve 43 = .ok (.getfield 7, 3) := by decide +kernel
theorem dX8_resolve_46 : decode cX8_resolve 46 = .ok (.bipush 25, 2) := by decide +kernel
theorem dX8_resolve_48 : decode cX8_resolve 48 = .ok (.iload_n 1, 1) := by decide +kernel
theorem dX8_resolve_49 : decode cX8_resolve 49 = .ok (.iadd, 1) := by decide +kernel
theorem dX8_resolve_50 : decode cX8_resolve 50 = .ok (.iaload, 1) := by decide +kernel
theorem dX8_resolve_51 : decode cX8_resolve 51 = .ok (.aload_n 0, 1) := by decide +kernel
theorem dX8_resolve_52 : decode cX8_resolve 52 = .ok (.getfield 7, 3) := by decide +kernel
theorem dX8_resolve_55 : decode cX8_resolve 55 = .ok (.bipush 25, 2) := by decide +kernel
theorem dX8_resolve_57 : decode cX8_resolve 57 = .ok (.iload_n 2, 1) := by decide +kernel
theorem dX8_resolve_58 : decode cX8_resolve 58 = .ok (.iadd, 1) := by decide +kernel
theorem dX8_resolve_59 : decode cX8_resolve 59 = .ok (.iaload, 1) := by decide +kernel
theorem dX8_resolve_60 : decode cX8_resolve 60 = .ok (.ior, 1) := by decide +kernel
theorem dX8_resolve_61 : decode cX8_resolve 61 = .ok (.iconst 1, 1) := by decide +kernel
theorem dX8_resolve_62 : decode cX8_resolve 62 = .ok (.iload_n 3, 1) := by decide +kernel
theorem dX8_resolve_63 : decode cX8_resolve 63 = .ok (.ishl, 1) := by decide +kernel
theorem dX8_resolve_64 : decode cX8_resolve 64 = .ok (.iconst (-1), 1) := by decide +kernel
theorem dX8_resolve_65 : decode cX8_resolve 65 = .ok (.ixor, 1) := by decide +kernel
theorem dX8_resolve_66 : decode cX8_resolve 66 = .ok (.iand, 1) := by decide +kernel
theorem dX8_resolve_67 : decode cX8_resolve 67 = .ok (.istore 4, 2) := by decide +kernel
theorem dX8_resolve_69 : decode cX8_resolve 69 = .ok (.aload_n 0, 1) := by decide +kernel
theorem dX8_resolve_70 : decode cX8_resolve 70 = .ok (.getfield 7, 3) := by decide +kernel
theorem dX8_resolve_73 : decode cX8_resolve 73 = .ok (.bipush 49, 2) := by decide +kernel
theorem dX8_resolve_75 : decode cX8_resolve 75 = .ok (.iload_n 1, 1) := by decide +kernel
theorem dX8_resolve_76 : decode cX8_resolve 76 = .ok (.iadd, 1) := by decide +kernel
theorem dX8_resolve_77 : decode cX8_resolve 77 = .ok (.iaload, 1) := by decide +kernel
theorem dX8_resolve_78 : decode cX8_resolve 78 = .ok (.aload_n 0, 1) := by decide +kernel
theorem dX8_resolve_79 : decode cX8_resolve 79 = .ok (.getfield 7, 3) := by decide +kernel
theorem dX8_resolve_82 : decode cX8_resolve 82 = .ok (.bipush 49, 2) := by decide +kernel
theorem dX8_resolve_84 : decode cX8_resolve 84 = .ok (.iload_n 2, 1) := by decide +kernel
theorem dX8_resolve_85 : decode cX8_resolve 85 = .ok (.iadd, 1) := by decide +kernel
theorem dX8_resolve_86 : decode cX8_resolve 86 = .ok (.iaload, 1) := by decide +kernel
theorem dX8_resolve_87 : decode cX8_resolve 87 = .ok (.ior, 1) := by decide +kernel
theorem dX8_resolve_88 : decode cX8_resolve 88 = .ok (.iconst 1, 1) := by decide +kernel
theorem dX8_resolve_89 : decode cX8_resolve 89 = .ok (.iload_n 3, 1) := by decide +kernel
theorem dX8_resolve_90 : decode cX8_resolve 90 = .ok (.ishl, 1) := by decide +kernel
theorem dX8_resolve_91 : decode cX8_resolve 91 = .ok (.iconst (-1), 1) := by decide +kernel
theorem dX8_resolve_92 : decode cX8_resolve 92 = .ok (.ixor, 1) := by decide +kernel
theorem dX8_resolve_93 : decode cX8_resolve 93 = .ok (.iand, 1) := by decide +kernel
theorem dX8_resolve_94 : decode cX8_resolve 94 = .ok (.istore 5, 2) := by decide +kernel
theorem dX8_resolve_96 : decode cX8_resolve 96 = .ok (.aload_n 0, 1) := by decide +kernel
theorem dX8_resolve_97 : decode cX8_resolve 97 = .ok (.getfield 7, 3) := by decide +kernel
theorem dX8_resolve_100 : decode cX8_resolve 100 = .ok (.iconst 1, 1) := by decide +kernel
theorem dX8_resolve_101 : decode cX8_resolve 101 = .ok (.iload_n 1, 1) := by decide +kernel
theorem dX8_resolve_102 : decode cX8_resolve 102 = .ok (.iadd, 1) := by decide +kernel
theorem dX8_resolve_103 : decode cX8_resolve 103 = .ok (.iaload, 1) := by decide +kernel
theorem dX8_resolve_104 : decode cX8_resolve 104 = .ok (.ifCond .ne 69, 3) := by decide +kernel
theorem dX8_resolve_107 : decode cX8_resolve 107 = .ok (.aload_n 0, 1) := by decide +kernel
theorem dX8_resolve_108 : decode cX8_resolve 108 = .ok (.getfield 7, 3) := by decide +kernel
theorem dX8_resolve_111 : decode cX8_resolve 111 = .ok (.iconst 1, 1) := by decide +kernel
theorem dX8_resolve_112 : decode cX8_resolve 112 = .ok (.iload_n 2, 1) := by decide +kernel
theorem dX8_resolve_113 : decode cX8_resolve 113 = .ok (.iadd, 1) := by decide +kernel
theorem dX8_resolve_114 : decode cX8_resolve 114 = .ok (.iaload, 1) := by decide +kernel
theorem dX8_resolve_115 : decode cX8_resolve 115 = .ok (.ifCond .ne 58, 3) := by decide +kernel
theorem dX8_resolve_118 : decode cX8_resolve 118 = .ok (.aload_n 0, 1) := by decide +kernel
theorem dX8_resolve_119 : decode cX8_resolve 119 = .ok (.getfield 7, 3) := by decide +kernel
theorem dX8_resolve_122 : decode cX8_resolve 122 = .ok (.bipush 25, 2) := by decide +kernel
theorem dX8_resolve_124 : decode cX8_resolve 124 = .ok (.iload_n 1, 1) := by decide +kernel
theorem dX8_resolve_125 : decode cX8_resolve 125 = .ok (.iadd, 1) := by decide +kernel
theorem dX8_resolve_126 : decode cX8_resolve 126 = .ok (.iaload, 1) := by decide +kernel
theorem dX8_resolve_127 : decode cX8_resolve 127 = .ok (.iload_n 3, 1) := by decide +kernel
theorem dX8_resolve_128 : decode cX8_resolve 128 = .ok (.invokestatic 54, 3) := by decide +kernel
theorem dX8_resolve_131 : decode cX8_resolve 131 = .ok (.ifCond .eq 42, 3) := by decide +kernel
theorem dX8_resolve_134 : decode cX8_resolve 134 = .ok (.aload_n 0, 1) := by decide +kernel
theorem dX8_resolve_135 : decode cX8_resolve 135 = .ok (.getfield 7, 3) := by decide +kernel
theorem dX8_resolve_138 : decode cX8_resolve 138 = .ok (.bipush 49, 2) := by decide +kernel
theorem dX8_resolve_140 : decode cX8_resolve 140 = .ok (.iload_n 2, 1) := by decide +kernel
theorem dX8_resolve_141 : decode cX8_resolve 141 = .ok (.iadd, 1) := by decide +kernel
theorem dX8_resolve_142 : decode cX8_resolve 142 = .ok (.iaload, 1) := by decide +kernel
theorem dX8_resolve_143 : decode cX8_resolve 143 = .ok (.iload_n 3, 1) := by decide +kernel
theorem dX8_resolve_144 : decode cX8_resolve 144 = .ok (.invokestatic 54, 3) := by decide +kernel
theorem dX8_resolve_147 : decode cX8_resolve 147 = .ok (.ifCond .eq 26, 3) := by decide +kernel
theorem dX8_resolve_150 : decode cX8_resolve 150 = .ok (.iload 4, 2) := by decide +kernel
theorem dX8_resolve_152 : decode cX8_resolve 152 = .ok (.iload 5, 2) := by decide +kernel
theorem dX8_resolve_154 : decode cX8_resolve 154 = .ok (.iand, 1) := by decide +kernel
theorem dX8_resolve_155 : decode cX8_resolve 155 = .ok (.ifCond .ne 18, 3) := by decide +kernel
theorem dX8_resolve_158 : decode cX8_resolve 158 = .ok (.aload_n 0, 1) := by decide +kernel
theorem dX8_resolve_159 : decode cX8_resolve 159 = .ok (.getfield 7, 3) := by decide +kernel
theorem dX8_resolve_162 : decode cX8_resolve 162 = .ok (.iconst 0, 1) := by decide +kernel
theorem dX8_resolve_163 : decode cX8_resolve 163 = .ok (.iaload, 1) := by decide +kernel
theorem dX8_resolve_164 : decode cX8_resolve 164 = .ok (.bipush 24, 2) := by decide +kernel
theorem dX8_resolve_166 : decode cX8_resolve 166 = .ok (.if_icmp .ge 7, 3) := by decide +kernel
theorem dX8_resolve_169 : decode cX8_resolve 169 = .ok (.iconst 1, 1) := by decide +kernel
theorem dX8_resolve_170 : decode cX8_resolve 170 = .ok (.goto 4, 3) := by decide +kernel
theorem dX8_resolve_173 : decode cX8_resolve 173 = .ok (.iconst 0, 1) := by decide +kernel
theorem dX8_resolve_174 : decode cX8_resolve 174 = .ok (.istore 6, 2) := by decide +kernel
theorem dX8_resolve_176 : decode cX8_resolve 176 = .ok (.aload_n 0, 1) := by decide +kernel
theorem dX8_resolve_177 : decode cX8_resolve 177 = .ok (.iload 6, 2) := by decide +kernel
theorem dX8_resolve_179 : decode cX8_resolve 179 = .ok (.ifCond .eq 7, 3) := by decide +kernel
theorem dX8_resolve_182 : decode cX8_resolve 182 = .ok (.iconst 0, 1) := by decide +kernel
theorem dX8_resolve_183 : decode cX8_resolve 183 = .ok (.goto 4, 3) := by decide +kernel
theorem dX8_resolve_186 : decode cX8_resolve 186 = .ok (.iconst 2, 1) := by decide +kernel
theorem dX8_resolve_187 : decode cX8_resolve 187 = .ok (.invokevirtual 118, 3) := by decide +kernel
theorem dX8_resolve_190 : decode cX8_resolve 190 = .ok (.ifCond .eq 5, 3) := by decide +kernel
theorem dX8_resolve_193 : decode cX8_resolve 193 = .ok (.iconst 0, 1) := by decide +kernel
theorem dX8_resolve_194 : decode cX8_resolve 194 = .ok (.ireturn, 1) := by decide +kernel
theorem dX8_resolve_195 : decode cX8_resolve 195 = .ok (.aload_n 0, 1) := by decide +kernel
theorem dX8_resolve_196 : decode cX8_resolve 196 = .ok (.iconst 0, 1) := by decide +kernel
theorem dX8_resolve_197 : decode cX8_resolve 197 = .ok (.iload 4, 2) := by decide +kernel
theorem dX8_resolve_199 : decode cX8_resolve 199 = .ok (.iload 5, 2) := by decide +kernel
theorem dX8_resolve_201 : decode cX8_resolve 201 = .ok (.invokevirtual 160, 3) := by decide +kernel
theorem dX8_resolve_204 : decode cX8_resolve 204 = .ok (.ireturn, 1) := by decide +kernel
theorem dX8_sum_0 : decode cX8_sum 0 = .ok (.aload_n 0, 1) := by decide +kernel
theorem dX8_sum_1 : decode cX8_sum 1 = .ok (.aload_n 0, 1) := by decide +kernel
theorem dX8_sum_2 : decode cX8_sum 2 = .ok (.iload_n 1, 1) := by decide +kernel
theorem dX8_sum_3 : decode cX8_sum 3 = .ok (.invokevirtual 151, 3) := by decide +kernel
theorem dX8_sum_6 : decode cX8_sum 6 = .ok (.ifCond .eq 15, 3) := by decide +kernel
theorem dX8_sum_9 : decode cX8_sum 9 = .ok (.aload_n 0, 1) := by decide +kernel
theorem dX8_sum_10 : decode cX8_sum 10 = .ok (.iload_n 2, 1) := by decide +kernel
theorem dX8_sum_11 : decode cX8_sum 11 = .ok (.invokevirtual 151, 3) := by decide +kernel
theorem dX8_sum_14 : decode cX8_sum 14 = .ok (.ifCond .eq 7, 3) := by decide +kernel
theorem dX8_sum_17 : decode cX8_sum 17 = .ok (.iconst 0, 1) := by decide +kernel
theorem dX8_sum_18 : decode cX8_sum 18 = .ok (.goto 4, 3) := by decide +kernel
theorem dX8_sum_21 : decode cX8_sum 21 = .ok (.iconst 1, 1) := by decide +kernel
theorem dX8_sum_22 : decode cX8_sum 22 = .ok (.invokevirtual 118, 3) := by decide +kernel
theorem dX8_sum_25 : decode cX8_sum 25 = .ok (.ifCond .eq 5, 3) := by decide +kernel
theorem dX8_sum_28 : decode cX8_sum 28 = .ok (.iconst 0, 1) := by decide +kernel
theorem dX8_sum_29 : decode cX8_sum 29 = .ok (.ireturn, 1) := by decide +kernel
theorem dX8_sum_30 : decode cX8_sum 30 = .ok (.aload_n 0, 1) := by decide +kernel
theorem dX8_sum_31 : decode cX8_sum 31 = .ok (.aload_n 0, 1) := by decide +kernel
theorem dX8_sum_32 : decode cX8_sum 32 = .ok (.getfield 7, 3) := by decide +kernel
theorem dX8_sum_35 : decode cX8_sum 35 = .ok (.iconst 1, 1) := by decide +kernel
theorem dX8_sum_36 : decode cX8_sum 36 = .ok (.iload_n 1, 1) := by decide +kernel
theorem dX8_sum_37 : decode cX8_sum 37 = .ok (.iadd, 1) := by decide +kernel
theorem dX8_sum_38 : decode cX8_sum 38 = .ok (.iaload, 1) := by decide +kernel
theorem dX8_sum_39 : decode cX8_sum 39 = .ok (.iconst 1, 1) := by decide +kernel
theorem dX8_sum_40 : decode cX8_sum 40 = .ok (.if_icmp .ne 30, 3) := by decide +kernel
theorem dX8_sum_43 : decode cX8_sum 43 = .ok (.aload_n 0, 1) := by decide +kernel
theorem dX8_sum_44 : decode cX8_sum 44 = .ok (.getfield 7, 3) := by decide +kernel
theorem dX8_sum_47 : decode cX8_sum 47 = .ok (.iconst 1, 1) := by decide +kernel
theorem dX8_sum_48 : decode cX8_sum 48 = .ok (.iload_n 2, 1) := by decide +kernel
theorem dX8_sum_49 : decode cX8_sum 49 = .ok (.iadd, 1) := by decide +kernel
theorem dX8_sum_50 : decode cX8_sum 50 = .ok (.iaload, 1) := by decide +kernel
theorem dX8_sum_51 : decode cX8_sum 51 = .ok (.iconst 1, 1) := by decide +kernel
theorem dX8_sum_52 : decode cX8_sum 52 = .ok (.if_icmp .ne 18, 3) := by decide +kernel
theorem dX8_sum_55 : decode cX8_sum 55 = .ok (.aload_n 0, 1) := by decide +kernel
theorem dX8_sum_56 : decode cX8_sum 56 = .ok (.getfield 7, 3) := by decide +kernel
theorem dX8_sum_59 : decode cX8_sum 59 = .ok (.iconst 0, 1) := by decide +kernel
theorem dX8_sum_60 : decode cX8_sum 60 = .ok (.iaload, 1) := by decide +kernel
theorem dX8_sum_61 : decode cX8_sum 61 = .ok (.bipush 24, 2) := by decide +kernel
theorem dX8_sum_63 : decode cX8_sum 63 = .ok (.if_icmp .ge 7, 3) := by decide +kernel
theorem dX8_sum_66 : decode cX8_sum 66 = .ok (.iconst 0, 1) := by decide +kernel
theorem dX8_sum_67 : decode cX8_sum 67 = .ok (.goto 4, 3) := by decide +kernel
theorem dX8_sum_70 : decode cX8_sum 70 = .ok (.iconst 2, 1) := by decide +kernel
theorem dX8_sum_71 : decode cX8_sum 71 = .ok (.invokevirtual 118, 3) := by decide +kernel
theorem dX8_sum_74 : decode cX8_sum 74 = .ok (.ifCond .eq 5, 3) := by decide +kernel
theorem dX8_sum_77 : decode cX8_sum 77 = .ok (.iconst 0, 1) := by decide +kernel
theorem dX8_sum_78 : decode cX8_sum 78 = .ok (.ireturn, 1) := by decide +kernel
theorem dX8_sum_79 : decode cX8_sum 79 = .ok (.aload_n 0, 1) := by decide +kernel
theorem dX8_sum_80 : decode cX8_sum 80 = .ok (.iconst 1, 1) := by decide +kernel
theorem dX8_sum_81 : decode cX8_sum 81 = .ok (.aload_n 0, 1) := by decide +kernel
theorem dX8_sum_82 : decode cX8_sum 82 = .ok (.getfield 7, 3) := by decide +kernel
theorem dX8_sum_85 : decode cX8_sum 85 = .ok (.bipush 25, 2) := by decide +kernel
theorem dX8_sum_87 : decode cX8_sum 87 = .ok (.iload_n 1, 1) := by decide +kernel
theorem dX8_sum_88 : decode cX8_sum 88 = .ok (.iadd, 1) := by decide +kernel
theorem dX8_sum_89 : decode cX8_sum 89 = .ok (.iaload, 1) := by decide +kernel
theorem dX8_sum_90 : decode cX8_sum 90 = .ok (.aload_n 0, 1) := by decide +kernel
theorem dX8_sum_91 : decode cX8_sum 91 = .ok (.getfield 7, 3) := by decide +kernel
theorem dX8_sum_94 : decode cX8_sum 94 = .ok (.bipush 25, 2) := by decide +kernel
theorem dX8_sum_96 : decode cX8_sum 96 = .ok (.iload_n 2, 1) := by decide +kernel
theorem dX8_sum_97 : decode cX8_sum 97 = .ok (.iadd, 1) := by decide +kernel
theorem dX8_sum_98 : decode cX8_sum 98 = .ok (.iaload, 1) := by decide +kernel
theorem dX8_sum_99 : decode cX8_sum 99 = .ok (.ixor, 1) := by decide +kernel
theorem dX8_sum_100 : decode cX8_sum 100 = .ok (.aload_n 0, 1) := by decide +kernel
theorem dX8_sum_101 : decode cX8_sum 101 = .ok (.getfield 7, 3) := by decide +kernel
theorem dX8_sum_104 : decode cX8_sum 104 = .ok (.bipush 49, 2) := by decide +kernel
theorem dX8_sum_106 : decode cX8_sum 106 = .ok (.iload_n 1, 1) := by decide +kernel
theorem dX8_sum_107 : decode cX8_sum 107 = .ok (.iadd, 1) := by decide +kernel
theorem dX8_sum_108 : decode cX8_sum 108 = .ok (.iaload, 1) := by decide +kernel
theorem dX8_sum_109 : decode cX8_sum 109 = .ok (.aload_n 0, 1) := by decide +kernel
theorem dX8_sum_110 : decode cX8_sum 110 = .ok (.getfield 7, 3) := by decide +kernel
theorem dX8_sum_113 : decode cX8_sum 113 = .ok (.bipush 49, 2) := by decide +kernel
theorem dX8_sum_115 : decode cX8_sum 115 = .ok (.iload_n 2, 1) := by decide +kernel
theorem dX8_sum_116 : decode cX8_sum 116 = .ok (.iadd, 1) := by decide +kernel
theorem dX8_sum_117 : decode cX8_sum 117 = .ok (.iaload, 1) := by decide +kernel
theorem dX8_sum_118 : decode cX8_sum 118 = .ok (.ixor, 1) := by decide +kernel
theorem dX8_sum_119 : decode cX8_sum 119 = .ok (.invokevirtual 160, 3) := by decide +kernel
theorem dX8_sum_122 : decode cX8_sum 122 = .ok (.ireturn, 1) := by decide +kernel
theorem dX8_decide_0 : decode cX8_decide 0 = .ok (.aload_n 0, 1) := by decide +kernel
theorem dX8_decide_1 : decode cX8_decide 1 = .ok (.iload_n 1, 1) := by decide +kernel
theorem dX8_decide_2 : decode cX8_decide 2 = .ok (.i2l, 1) := by decide +kernel
theorem dX8_decide_3 : decode cX8_decide 3 = .ok (.lconst 0, 1) := by decide +kernel
theorem dX8_decide_4 : decode cX8_decide 4 = .ok (.ldc2_w 169, 3) := by decide +kernel
theorem dX8_decide_7 : decode cX8_decide 7 = .ok (.invokestatic 111, 3) := by decide +kernel
theorem dX8_decide_10 : decode cX8_decide 10 = .ok (.ifCond .ne 7, 3) := by decide +kernel
theorem dX8_decide_13 : decode cX8_decide 13 = .ok (.iconst 1, 1) := by decide +kernel
theorem dX8_decide_14 : decode cX8_decide 14 = .ok (.goto 30, 3) := by decide +kernel
theorem dX8_decide_17 : decode cX8_decide 17 = .ok (.aload_n 0, 1) := by decide +kernel
theorem dX8_decide_18 : decode cX8_decide 18 = .ok (.getfield 38, 3) := by decide +kernel
theorem dX8_decide_21 : decode cX8_decide 21 = .ok (.bipush (-9), 2) := by decide +kernel
theorem dX8_decide_23 : decode cX8_decide 23 = .ok (.if_icmp .ne 16, 3) := by decide +kernel
theorem dX8_decide_26 : decode cX8_decide 26 = .ok (.aload_n 0, 1) := by decide +kernel
theorem dX8_decide_27 : decode cX8_decide 27 = .ok (.getfield 62, 3) := by decide +kernel
theorem dX8_decide_30 : decode cX8_decide 30 = .ok (.iload_n 1, 1) := by decide +kernel
theorem dX8_decide_31 : decode cX8_decide 31 = .ok (.iconst 2, 1) := by decide +kernel
theorem dX8_decide_32 : decode cX8_decide 32 = .ok (.idiv, 1) := by decide +kernel
theorem dX8_decide_33 : decode cX8_decide 33 = .ok (.invokestatic 54, 3) := by decide +kernel
theorem dX8_decide_36 : decode cX8_decide 36 = .ok (.ifCond .eq 7, 3) := by decide +kernel
theorem dX8_decide_39 : decode cX8_decide 39 = .ok (.iconst 2, 1) := by decide +kernel
theorem dX8_decide_40 : decode cX8_decide 40 = .ok (.goto 4, 3) := by decide +kernel
theorem dX8_decide_43 : decode cX8_decide 43 = .ok (.iconst 0, 1) := by decide +kernel
theorem dX8_decide_44 : decode cX8_decide 44 = .ok (.invokevirtual 118, 3) := by decide +kernel
theorem dX8_decide_47 : decode cX8_decide 47 = .ok (.ifCond .eq 5, 3) := by decide +kernel
theorem dX8_decide_50 : decode cX8_decide 50 = .ok (.iconst 0, 1) := by decide +kernel
theorem dX8_decide_51 : decode cX8_decide 51 = .ok (.ireturn, 1) := by decide +kernel
theorem dX8_decide_52 : decode cX8_decide 52 = .ok (.aload_n 0, 1) := by decide +kernel
theorem dX8_decide_53 : decode cX8_decide 53 = .ok (.getfield 7, 3) := by decide +kernel
theorem dX8_decide_56 : decode cX8_decide 56 = .ok (.aload_n 0, 1) := by decide +kernel
theorem dX8_decide_57 : decode cX8_decide 57 = .ok (.getfield 13, 3) := by decide +kernel
theorem dX8_decide_60 : decode cX8_decide 60 = .ok (.invokestatic 102, 3) := by decide +kernel
theorem dX8_decide_63 : decode cX8_decide 63 = .ok (.aload_n 0, 1) := by decide +kernel
theorem dX8_decide_64 : decode cX8_decide 64 = .ok (.getfield 13, 3) := by decide +kernel
theorem dX8_decide_67 : decode cX8_decide 67 = .ok (.bipush 74, 2) := by decide +kernel
theorem dX8_decide_69 : decode cX8_decide 69 = .ok (.aload_n 0, 1) := by decide +kernel
theorem dX8_decide_70 : decode cX8_decide 70 = .ok (.getfield 13, 3) := by decide +kernel
theorem dX8_decide_73 : decode cX8_decide 73 = .ok (.bipush 73, 2) := by decide +kernel
theorem dX8_decide_75 : decode cX8_decide 75 = .ok (.iaload, 1) := by decide +kernel
theorem dX8_decide_76 : decode cX8_decide 76 = .ok (.iadd, 1) := by decide +kernel
theorem dX8_decide_77 : decode cX8_decide 77 = .ok (.iload_n 1, 1) := by decide +kernel
theorem dX8_decide_78 : decode cX8_decide 78 = .ok (.iastore, 1) := by decide +kernel
theorem dX8_decide_79 : decode cX8_decide 79 = .ok (.aload_n 0, 1) := by decide +kernel
theorem dX8_decide_80 : decode cX8_decide 80 = .ok (.getfield 13, 3) := by decide +kernel
theorem dX8_decide_83 : decode cX8_decide 83 = .ok (.bipush 73, 2) := by decide +kernel
theorem dX8_decide_85 : decode cX8_decide 85 = .ok (.dup2, 1) := by decide +kernel
theorem dX8_decide_86 : decode cX8_decide 86 = .ok (.iaload, 1) := by decide +kernel
theorem dX8_decide_87 : decode cX8_decide 87 = .ok (.iconst 1, 1) := by decide +kernel
theorem dX8_decide_88 : decode cX8_decide 88 = .ok (.iadd, 1) := by decide +kernel
theorem dX8_decide_89 : decode cX8_decide 89 = .ok (.iastore, 1) := by decide +kernel
theorem dX8_decide_90 : decode cX8_decide 90 = .ok (.aload_n 0, 1) := by decide +kernel
theorem dX8_decide_91 : decode cX8_decide 91 = .ok (.invokevirtual 154, 3) := by decide +kernel
theorem dX8_decide_94 : decode cX8_decide 94 = .ok (.aload_n 0, 1) := by decide +kernel
theorem dX8_decide_95 : decode cX8_decide 95 = .ok (.getfield 68, 3) := by decide +kernel
theorem dX8_decide_98 : decode cX8_decide 98 = .ok (.ireturn, 1) := by decide +kernel
theorem dX8_backtrack_0 : decode cX8_backtrack 0 = .ok (.aload_n 0, 1) := by decide +kernel
theorem dX8_backtrack_1 : decode cX8_backtrack 1 = .ok (.iload_n 1, 1) := by decide +kernel
theorem dX8_backtrack_2 : decode cX8_backtrack 2 = .ok (.i2l, 1) := by decide +kernel
theorem dX8_backtrack_3 : decode cX8_backtrack 3 = .ok (.lconst 0, 1) := by decide +kernel
theorem dX8_backtrack_4 : decode cX8_backtrack 4 = .ok (.aload_n 0, 1) := by decide +kernel
theorem dX8_backtrack_5 : decode cX8_backtrack 5 = .ok (.getfield 71, 3) := by decide +kernel
theorem dX8_backtrack_8 : decode cX8_backtrack 8 = .ok (.i2l, 1) := by decide +kernel
theorem dX8_backtrack_9 : decode cX8_backtrack 9 = .ok (.invokestatic 111, 3) := by decide +kernel
theorem dX8_backtrack_12 : decode cX8_backtrack 12 = .ok (.ifCond .eq 7, 3) := by decide +kernel
theorem dX8_backtrack_15 : decode cX8_backtrack 15 = .ok (.iconst 0, 1) := by decide +kernel
theorem dX8_backtrack_16 : decode cX8_backtrack 16 = .ok (.goto 4, 3) := by decide +kernel
theorem dX8_backtrack_19 : decode cX8_backtrack 19 = .ok (.iconst 1, 1) := by decide +kernel
theorem dX8_backtrack_20 : decode cX8_backtrack 20 = .ok (.invokevirtual 118, 3) := by decide +kernel
theorem dX8_backtrack_23 : decode cX8_backtrack 23 = .ok (.ifCond .eq 5, 3) := by decide +kernel
theorem dX8_backtrack_26 : decode cX8_backtrack 26 = .ok (.iconst 0, 1) := by decide +kernel
theorem dX8_backtrack_27 : decode cX8_backtrack 27 = .ok (.ireturn, 1) := by decide +kernel
theorem dX8_backtrack_28 : decode cX8_backtrack 28 = .ok (.aload_n 0, 1) := by decide +kernel
theorem dX8_backtrack_29 : decode cX8_backtrack 29 = .ok (.getfield 7, 3) := by decide +kernel
theorem dX8_backtrack_32 : decode cX8_backtrack 32 = .ok (.aload_n 0, 1) := by decide +kernel
theorem dX8_backtrack_33 : decode cX8_backtrack 33 = .ok (.getfield 13, 3) := by decide +kernel
theorem dX8_backtrack_36 : decode cX8_backtrack 36 = .ok (.invokestatic 102, 3) := by decide +kernel
theorem dX8_backtrack_39 : decode cX8_backtrack 39 = .ok (.aload_n 0, 1) := by decide +kernel
theorem dX8_backtrack_40 : decode cX8_backtrack 40 = .ok (.getfield 13, 3) := by decide +kernel
theorem dX8_backtrack_43 : decode cX8_backtrack 43 = .ok (.bipush 73, 2) := by decide +kernel
theorem dX8_backtrack_45 : decode cX8_backtrack 45 = .ok (.iload_n 1, 1) := by decide +kernel
theorem dX8_backtrack_46 : decode cX8_backtrack 46 = .ok (.iastore, 1) := by decide +kernel
theorem dX8_backtrack_47 : decode cX8_backtrack 47 = .ok (.aload_n 0, 1) := by decide +kernel
theorem dX8_backtrack_48 : decode cX8_backtrack 48 = .ok (.invokevirtual 154, 3) := by decide +kernel
theorem dX8_backtrack_51 : decode cX8_backtrack 51 = .ok (.aload_n 0, 1) := by decide +kernel
theorem dX8_backtrack_52 : decode cX8_backtrack 52 = .ok (.getfield 68, 3) := by decide +kernel
theorem dX8_backtrack_55 : decode cX8_backtrack 55 = .ok (.ireturn, 1) := by decide +kernel
theorem dX8_canLearn_0 : decode cX8_canLearn 0 = .ok (.aload_n 0, 1) := by decide +kernel
theorem dX8_canLearn_1 : decode cX8_canLearn 1 = .ok (.getfield 38, 3) := by decide +kernel
theorem dX8_canLearn_4 : decode cX8_canLearn 4 = .ok (.bipush (-9), 2) := by decide +kernel
theorem dX8_canLearn_6 : decode cX8_canLearn 6 = .ok (.if_icmp .eq 14, 3) := by decide +kernel
theorem dX8_canLearn_9 : decode cX8_canLearn 9 = .ok (.aload_n 0, 1) := by decide +kernel
theorem dX8_canLearn_10 : decode cX8_canLearn 10 = .ok (.getfield 71, 3) := by decide +kernel
theorem dX8_canLearn_13 : decode cX8_canLearn 13 = .ok (.ifCond .le 7, 3) := by decide +kernel
theorem dX8_canLearn_16 : decode cX8_canLearn 16 = .ok (.iconst 1, 1) := by decide +kernel
theorem dX8_canLearn_17 : decode cX8_canLearn 17 = .ok (.goto 4, 3) := by decide +kernel
theorem dX8_canLearn_20 : decode cX8_canLearn 20 = .ok (.iconst 0, 1) := by decide +kernel
theorem dX8_canLearn_21 : decode cX8_canLearn 21 = .ok (.ireturn, 1) := by decide +kernel
theorem dX8_atLevel_0 : decode cX8_atLevel 0 = .ok (.iconst 0, 1) := by decide +kernel
theorem dX8_atLevel_1 : decode cX8_atLevel 1 = .ok (.istore_n 2, 1) := by decide +kernel
theorem dX8_atLevel_2 : decode cX8_atLevel 2 = .ok (.iconst 0, 1) := by decide +kernel
theorem dX8_atLevel_3 : decode cX8_atLevel 3 = .ok (.istore_n 3, 1) := by decide +kernel
theorem dX8_atLevel_4 : decode cX8_atLevel 4 = .ok (.iload_n 3, 1) := by decide +kernel
theorem dX8_atLevel_5 : decode cX8_atLevel 5 = .ok (.bipush 8, 2) := by decide +kernel
theorem dX8_atLevel_7 : decode cX8_atLevel 7 = .ok (.if_icmp .ge 38, 3) := by decide +kernel
theorem dX8_atLevel_10 : decode cX8_atLevel 10 = .ok (.iload_n 2, 1) := by decide +kernel
theorem dX8_atLevel_11 : decode cX8_atLevel 11 = .ok (.iload_n 1, 1) := by decide +kernel
theorem dX8_atLevel_12 : decode cX8_atLevel 12 = .ok (.iload_n 3, 1) := by decide +kernel
theorem dX8_atLevel_13 : decode cX8_atLevel 13 = .ok (.invokestatic 54, 3) := by decide +kernel
theorem dX8_atLevel_16 : decode cX8_atLevel 16 = .ok (.ifCond .eq 20, 3) := by decide +kernel
theorem dX8_atLevel_19 : decode cX8_atLevel 19 = .ok (.aload_n 0, 1) := by decide +kernel
theorem dX8_atLevel_20 : decode cX8_atLevel 20 = .ok (.getfield 29, 3) := by decide +kernel
theorem dX8_atLevel_23 : decode cX8_atLevel 23 = .ok (.iload_n 3, 1) := by decide +kernel
theorem dX8_atLevel_24 : decode cX8_atLevel 24 = .ok (.iaload, 1) := by decide +kernel
theorem dX8_atLevel_25 : decode cX8_atLevel 25 = .ok (.aload_n 0, 1) := by decide +kernel
theorem dX8_atLevel_26 : decode cX8_atLevel 26 = .ok (.getfield 71, 3) := by decide +kernel
theorem dX8_atLevel_29 : decode cX8_atLevel 29 = .ok (.if_icmp .ne 7, 3) := by decide +kernel
theorem dX8_atLevel_32 : decode cX8_atLevel 32 = .ok (.iconst 1, 1) := by decide +kernel
theorem dX8_atLevel_33 : decode cX8_atLevel 33 = .ok (.goto 4, 3) := by decide +kernel
theorem dX8_atLevel_36 : decode cX8_atLevel 36 = .ok (.iconst 0, 1) := by decide +kernel
theorem dX8_atLevel_37 : decode cX8_atLevel 37 = .ok (.iadd, 1) := by decide +kernel
theorem dX8_atLevel_38 : decode cX8_atLevel 38 = .ok (.istore_n 2, 1) := by decide +kernel
theorem dX8_atLevel_39 : decode cX8_atLevel 39 = .ok (.iinc 3 1, 3) := by decide +kernel
theorem dX8_atLevel_42 : decode cX8_atLevel 42 = .ok (.goto (-38), 3) := by decide +kernel
theorem dX8_atLevel_45 : decode cX8_atLevel 45 = .ok (.iload_n 2, 1) := by decide +kernel
theorem dX8_atLevel_46 : decode cX8_atLevel 46 = .ok (.ireturn, 1) := by decide +kernel
theorem dX8_latest_0 : decode cX8_latest 0 = .ok (.bipush (-9), 2) := by decide +kernel
theorem dX8_latest_2 : decode cX8_latest 2 = .ok (.istore_n 2, 1) := by decide +kernel
theorem dX8_latest_3 : decode cX8_latest 3 = .ok (.iconst 0, 1) := by decide +kernel
theorem dX8_latest_4 : decode cX8_latest 4 = .ok (.istore_n 3, 1) := by decide +kernel
theorem dX8_latest_5 : decode cX8_latest 5 = .ok (.iload_n 3, 1) := by decide +kernel
theorem dX8_latest_6 : decode cX8_latest 6 = .ok (.bipush 8, 2) := by decide +kernel
theorem dX8_latest_8 : decode cX8_latest 8 = .ok (.if_icmp .ge 44, 3) := by decide +kernel
theorem dX8_latest_11 : decode cX8_latest 11 = .ok (.iload_n 1, 1) := by decide +kernel
theorem dX8_latest_12 : decode cX8_latest 12 = .ok (.iload_n 3, 1) := by decide +kernel
theorem dX8_latest_13 : decode cX8_latest 13 = .ok (.invokestatic 54, 3) := by decide +kernel
theorem dX8_latest_16 : decode cX8_latest 16 = .ok (.ifCond .eq 28, 3) := by decide +kernel
theorem dX8_latest_19 : decode cX8_latest 19 = .ok (.iload_n 2, 1) := by decide +kernel
theorem dX8_latest_20 : decode cX8_latest 20 = .ok (.bipush (-9), 2) := by decide +kernel
theorem dX8_latest_22 : decode cX8_latest 22 = .ok (.if_icmp .eq 18, 3) := by decide +kernel
theorem dX8_latest_25 : decode cX8_latest 25 = .ok (.aload_n 0, 1) := by decide +kernel
theorem dX8_latest_26 : decode cX8_latest 26 = .ok (.getfield 35, 3) := by decide +kernel
theorem dX8_latest_29 : decode cX8_latest 29 = .ok (.iload_n 3, 1) := by decide +kernel
theorem dX8_latest_30 : decode cX8_latest 30 = .ok (.iaload, 1) := by decide +kernel
theorem dX8_latest_31 : decode cX8_latest 31 = .ok (.aload_n 0, 1) := by decide +kernel
theorem dX8_latest_32 : decode cX8_latest 32 = .ok (.getfield 35, 3) := by decide +kernel
theorem dX8_latest_35 : decode cX8_latest 35 = .ok (.iload_n 2, 1) := by decide +kernel
theorem dX8_latest_36 : decode cX8_latest 36 = .ok (.iaload, 1) := by decide +kernel
theorem dX8_latest_37 : decode cX8_latest 37 = .ok (.if_icmp .le 7, 3) := by decide +kernel
theorem dX8_latest_40 : decode cX8_latest 40 = .ok (.iload_n 3, 1) := by decide +kernel
theorem dX8_latest_41 : decode cX8_latest 41 = .ok (.goto 4, 3) := by decide +kernel
theorem dX8_latest_44 : decode cX8_latest 44 = .ok (.iload_n 2, 1) := by decide +kernel
theorem dX8_latest_45 : decode cX8_latest 45 = .ok (.istore_n 2, 1) := by decide +kernel
theorem dX8_latest_46 : decode cX8_latest 46 = .ok (.iinc 3 1, 3) := by decide +kernel
theorem dX8_latest_49 : decode cX8_latest 49 = .ok (.goto (-44), 3) := by decide +kernel
theorem dX8_latest_52 : decode cX8_latest 52 = .ok (.iload_n 2, 1) := by decide +kernel
theorem dX8_latest_53 : decode cX8_latest 53 = .ok (.ireturn, 1) := by decide +kernel
theorem dX8_analyse_0 : decode cX8_analyse 0 = .ok (.aload_n 1, 1) := by decide +kernel
theorem dX8_analyse_1 : decode cX8_analyse 1 = .ok (.aload_n 0, 1) := by decide +kernel
theorem dX8_analyse_2 : decode cX8_analyse 2 = .ok (.getfield 38, 3) := by decide +kernel
theorem dX8_analyse_5 : decode cX8_analyse 5 = .ok (.invokestatic 74, 3) := by decide +kernel
theorem dX8_analyse_8 : decode cX8_analyse 8 = .ok (.istore_n 2, 1) := by decide +kernel
theorem dX8_analyse_9 : decode cX8_analyse 9 = .ok (.aload_n 0, 1) := by decide +kernel
theorem dX8_analyse_10 : decode cX8_analyse 10 = .ok (.iload_n 2, 1) := by decide +kernel
theorem dX8_analyse_11 : decode cX8_analyse 11 = .ok (.invokevirtual 171, 3) := by decide +kernel
theorem dX8_analyse_14 : decode cX8_analyse 14 = .ok (.iconst 1, 1) := by decide +kernel
theorem dX8_analyse_15 : decode cX8_analyse 15 = .ok (.if_icmp .le 31, 3) := by decide +kernel
theorem dX8_analyse_18 : decode cX8_analyse 18 = .ok (.aload_n 0, 1) := by decide +kernel
theorem dX8_analyse_19 : decode cX8_analyse 19 = .ok (.iload_n 2, 1) := by decide +kernel
theorem dX8_analyse_20 : decode cX8_analyse 20 = .ok (.invokevirtual 174, 3) := by decide +kernel
theorem dX8_analyse_23 : decode cX8_analyse 23 = .ok (.istore_n 3, 1) := by decide +kernel
theorem dX8_analyse_24 : decode cX8_analyse 24 = .ok (.iload_n 2, 1) := by decide +kernel
theorem dX8_analyse_25 : decode cX8_analyse 25 = .ok (.aload_n 1, 1) := by decide +kernel
theorem dX8_analyse_26 : decode cX8_analyse 26 = .ok (.aload_n 0, 1) := by decide +kernel
theorem dX8_analyse_27 : decode cX8_analyse 27 = .ok (.getfield 32, 3) := by decide +kernel
theorem dX8_analyse_30 : decode cX8_analyse 30 = .ok (.iload_n 3, 1) := by decide +kernel
theorem dX8_analyse_31 : decode cX8_analyse 31 = .ok (.iaload, 1) := by decide +kernel
theorem dX8_analyse_32 : decode cX8_analyse 32 = .ok (.invokestatic 74, 3) := by decide +kernel
theorem dX8_analyse_35 : decode cX8_analyse 35 = .ok (.ior, 1) := by decide +kernel
theorem dX8_analyse_36 : decode cX8_analyse 36 = .ok (.iconst 1, 1) := by decide +kernel
theorem dX8_analyse_37 : decode cX8_analyse 37 = .ok (.iload_n 3, 1) := by decide +kernel
theorem dX8_analyse_38 : decode cX8_analyse 38 = .ok (.ishl, 1) := by decide +kernel
theorem dX8_analyse_39 : decode cX8_analyse 39 = .ok (.iconst (-1), 1) := by decide +kernel
theorem dX8_analyse_40 : decode cX8_analyse 40 = .ok (.ixor, 1) := by decide +kernel
theorem dX8_analyse_41 : decode cX8_analyse 41 = .ok (.iand, 1) := by decide +kernel
theorem dX8_analyse_42 : decode cX8_analyse 42 = .ok (.istore_n 2, 1) := by decide +kernel
theorem dX8_analyse_43 : decode cX8_analyse 43 = .ok (.goto (-34), 3) := by decide +kernel
theorem dX8_analyse_46 : decode cX8_analyse 46 = .ok (.aload_n 0, 1) := by decide +kernel
theorem dX8_analyse_47 : decode cX8_analyse 47 = .ok (.iload_n 2, 1) := by decide +kernel
theorem dX8_analyse_48 : decode cX8_analyse 48 = .ok (.aload_n 0, 1) := by decide +kernel
theorem dX8_analyse_49 : decode cX8_analyse 49 = .ok (.getfield 65, 3) := by decide +kernel
theorem dX8_analyse_52 : decode cX8_analyse 52 = .ok (.iconst (-1), 1) := by decide +kernel
theorem dX8_analyse_53 : decode cX8_analyse 53 = .ok (.ixor, 1) := by decide +kernel
theorem dX8_analyse_54 : decode cX8_analyse 54 = .ok (.iand, 1) := by decide +kernel
theorem dX8_analyse_55 : decode cX8_analyse 55 = .ok (.putfield 177, 3) := by decide +kernel
theorem dX8_analyse_58 : decode cX8_analyse 58 = .ok (.aload_n 0, 1) := by decide +kernel
theorem dX8_analyse_59 : decode cX8_analyse 59 = .ok (.iload_n 2, 1) := by decide +kernel
theorem dX8_analyse_60 : decode cX8_analyse 60 = .ok (.aload_n 0, 1) := by decide +kernel
theorem dX8_analyse_61 : decode cX8_analyse 61 = .ok (.getfield 65, 3) := by decide +kernel
theorem dX8_analyse_64 : decode cX8_analyse 64 = .ok (.iand, 1) := by decide +kernel
theorem dX8_analyse_65 : decode cX8_analyse 65 = .ok (.putfield 180, 3) := by decide +kernel
theorem dX8_analyse_68 : decode cX8_analyse 68 = .ok (.iconst 0, 1) := by decide +kernel
theorem dX8_analyse_69 : decode cX8_analyse 69 = .ok (.istore_n 3, 1) := by decide +kernel
theorem dX8_analyse_70 : decode cX8_analyse 70 = .ok (.iconst 0, 1) := by decide +kernel
theorem dX8_analyse_71 : decode cX8_analyse 71 = .ok (.istore 4, 2) := by decide +kernel
theorem dX8_analyse_73 : decode cX8_analyse 73 = .ok (.iload 4, 2) := by decide +kernel
theorem dX8_analyse_75 : decode cX8_analyse 75 = .ok (.bipush 8, 2) := by decide +kernel
theorem dX8_analyse_77 : decode cX8_analyse 77 = .ok (.if_icmp .ge 55, 3) := by decide +kernel
theorem dX8_analyse_80 : decode cX8_analyse 80 = .ok (.iload_n 2, 1) := by decide +kernel
theorem dX8_analyse_81 : decode cX8_analyse 81 = .ok (.iload 4, 2) := by decide +kernel
theorem dX8_analyse_83 : decode cX8_analyse 83 = .ok (.invokestatic 54, 3) := by decide +kernel
theorem dX8_analyse_86 : decode cX8_analyse 86 = .ok (.ifCond .eq 38, 3) := by decide +kernel
theorem dX8_analyse_89 : decode cX8_analyse 89 = .ok (.aload_n 0, 1) := by decide +kernel
theorem dX8_analyse_90 : decode cX8_analyse 90 = .ok (.getfield 29, 3) := by decide +kernel
theorem dX8_analyse_93 : decode cX8_analyse 93 = .ok (.iload 4, 2) := by decide +kernel
theorem dX8_analyse_95 : decode cX8_analyse 95 = .ok (.iaload, 1) := by decide +kernel
theorem dX8_analyse_96 : decode cX8_analyse 96 = .ok (.aload_n 0, 1) := by decide +kernel
theorem dX8_analyse_97 : decode cX8_analyse 97 = .ok (.getfield 71, 3) := by decide +kernel
theorem dX8_analyse_100 : decode cX8_analyse 100 = .ok (.if_icmp .ge 24, 3) := by decide +kernel
theorem dX8_analyse_103 : decode cX8_analyse 103 = .ok (.aload_n 0, 1) := by decide +kernel
theorem dX8_analyse_104 : decode cX8_analyse 104 = .ok (.getfield 29, 3) := by decide +kernel
theorem dX8_analyse_107 : decode cX8_analyse 107 = .ok (.iload 4, 2) := by decide +kernel
theorem dX8_analyse_109 : decode cX8_analyse 109 = .ok (.iaload, 1) := by decide +kernel
theorem dX8_analyse_110 : decode cX8_analyse 110 = .ok (.iload_n 3, 1) := by decide +kernel
theorem dX8_analyse_111 : decode cX8_analyse 111 = .ok (.if_icmp .le 13, 3) := by decide +kernel
theorem dX8_analyse_114 : decode cX8_analyse 114 = .ok (.aload_n 0, 1) := by decide +kernel
theorem dX8_analyse_115 : decode cX8_analyse 115 = .ok (.getfield 29, 3) := by decide +kernel
theorem dX8_analyse_118 : decode cX8_analyse 118 = .ok (.iload 4, 2) := by decide +kernel
theorem dX8_analyse_120 : decode cX8_analyse 120 = .ok (.iaload, 1) := by decide +kernel
theorem dX8_analyse_121 : decode cX8_analyse 121 = .ok (.goto 4, 3) := by decide +kernel
theorem dX8_analyse_124 : decode cX8_analyse 124 = .ok (.iload_n 3, 1) := by decide +kernel
theorem dX8_analyse_125 : decode cX8_analyse 125 = .ok (.istore_n 3, 1) := by decide +kernel
theorem dX8_analyse_126 : decode cX8_analyse 126 = .ok (.iinc 4 1, 3) := by decide +kernel
theorem dX8_analyse_129 : decode cX8_analyse 129 = .ok (.goto (-56), 3) := by decide +kernel
theorem dX8_analyse_132 : decode cX8_analyse 132 = .ok (.iload_n 3, 1) := by decide +kernel
theorem dX8_analyse_133 : decode cX8_analyse 133 = .ok (.ireturn, 1) := by decide +kernel
theorem dX8_learn_0 : decode cX8_learn 0 = .ok (.aload_n 0, 1) := by decide +kernel
theorem dX8_learn_1 : decode cX8_learn 1 = .ok (.aload_n 0, 1) := by decide +kernel
theorem dX8_learn_2 : decode cX8_learn 2 = .ok (.invokevirtual 183, 3) := by decide +kernel
theorem dX8_learn_5 : decode cX8_learn 5 = .ok (.ifCond .eq 14, 3) := by decide +kernel
theorem dX8_learn_8 : decode cX8_learn 8 = .ok (.aload_n 0, 1) := by decide +kernel
theorem dX8_learn_9 : decode cX8_learn 9 = .ok (.getfield 7, 3) := by decide +kernel
theorem dX8_learn_12 : decode cX8_learn 12 = .ok (.iconst 0, 1) := by decide +kernel
theorem dX8_learn_13 : decode cX8_learn 13 = .ok (.iaload, 1) := by decide +kernel
theorem dX8_learn_14 : decode cX8_learn 14 = .ok (.bipush 24, 2) := by decide +kernel
theorem dX8_learn_16 : decode cX8_learn 16 = .ok (.if_icmp .ne 7, 3) := by decide +kernel
theorem dX8_learn_19 : decode cX8_learn 19 = .ok (.iconst 1, 1) := by decide +kernel
theorem dX8_learn_20 : decode cX8_learn 20 = .ok (.goto 4, 3) := by decide +kernel
theorem dX8_learn_23 : decode cX8_learn 23 = .ok (.iconst 0, 1) := by decide +kernel
theorem dX8_learn_24 : decode cX8_learn 24 = .ok (.invokevirtual 118, 3) := by decide +kernel
theorem dX8_learn_27 : decode cX8_learn 27 = .ok (.ifCond .eq 5, 3) := by decide +kernel
theorem dX8_learn_30 : decode cX8_learn 30 = .ok (.iconst 0, 1) := by decide +kernel
theorem dX8_learn_31 : decode cX8_learn 31 = .ok (.ireturn, 1) := by decide +kernel
theorem dX8_learn_32 : decode cX8_learn 32 = .ok (.aload_n 0, 1) := by decide +kernel
theorem dX8_learn_33 : decode cX8_learn 33 = .ok (.aload_n 0, 1) := by decide +kernel
theorem dX8_learn_34 : decode cX8_learn 34 = .ok (.getfield 7, 3) := by decide +kernel
theorem dX8_learn_37 : decode cX8_learn 37 = .ok (.invokevirtual 186, 3) := by decide +kernel
theorem dX8_learn_40 : decode cX8_learn 40 = .ok (.istore_n 1, 1) := by decide +kernel
theorem dX8_learn_41 : decode cX8_learn 41 = .ok (.aload_n 0, 1) := by decide +kernel
theorem dX8_learn_42 : decode cX8_learn 42 = .ok (.getfield 7, 3) := by decide +kernel
theorem dX8_learn_45 : decode cX8_learn 45 = .ok (.aload_n 0, 1) := by decide +kernel
theorem dX8_learn_46 : decode cX8_learn 46 = .ok (.getfield 13, 3) := by decide +kernel
theorem dX8_learn_49 : decode cX8_learn 49 = .ok (.invokestatic 102, 3) := by decide +kernel
theorem dX8_learn_52 : decode cX8_learn 52 = .ok (.aload_n 0, 1) := by decide +kernel
theorem dX8_learn_53 : decode cX8_learn 53 = .ok (.getfield 13, 3) := by decide +kernel
theorem dX8_learn_56 : decode cX8_learn 56 = .ok (.iconst 0, 1) := by decide +kernel
theorem dX8_learn_57 : decode cX8_learn 57 = .ok (.aload_n 0, 1) := by decide +kernel
theorem dX8_learn_58 : decode cX8_learn 58 = .ok (.getfield 177, 3) := by decide +kernel
theorem dX8_learn_61 : decode cX8_learn 61 = .ok (.aload_n 0, 1) := by decide +kernel
theorem dX8_learn_62 : decode cX8_learn 62 = .ok (.getfield 180, 3) := by decide +kernel
theorem dX8_learn_65 : decode cX8_learn 65 = .ok (.invokestatic 133, 3) := by decide +kernel
theorem dX8_learn_68 : decode cX8_learn 68 = .ok (.aload_n 0, 1) := by decide +kernel
theorem dX8_learn_69 : decode cX8_learn 69 = .ok (.getfield 13, 3) := by decide +kernel
theorem dX8_learn_72 : decode cX8_learn 72 = .ok (.bipush 73, 2) := by decide +kernel
theorem dX8_learn_74 : decode cX8_learn 74 = .ok (.iload_n 1, 1) := by decide +kernel
theorem dX8_learn_75 : decode cX8_learn 75 = .ok (.iastore, 1) := by decide +kernel
theorem dX8_learn_76 : decode cX8_learn 76 = .ok (.aload_n 0, 1) := by decide +kernel
theorem dX8_learn_77 : decode cX8_learn 77 = .ok (.invokevirtual 154, 3) := by decide +kernel
theorem dX8_learn_80 : decode cX8_learn 80 = .ok (.iload_n 1, 1) := by decide +kernel
theorem dX8_learn_81 : decode cX8_learn 81 = .ok (.ireturn, 1) := by decide +kernel
theorem dX8_undo_0 : decode cX8_undo 0 = .ok (.aload_n 0, 1) := by decide +kernel
theorem dX8_undo_1 : decode cX8_undo 1 = .ok (.aload_n 0, 1) := by decide +kernel
theorem dX8_undo_2 : decode cX8_undo 2 = .ok (.getfield 99, 3) := by decide +kernel
theorem dX8_undo_5 : decode cX8_undo 5 = .ok (.ifCond .ne 7, 3) := by decide +kernel
theorem dX8_undo_8 : decode cX8_undo 8 = .ok (.iconst 1, 1) := by decide +kernel
theorem dX8_undo_9 : decode cX8_undo 9 = .ok (.goto 4, 3) := by decide +kernel
theorem dX8_undo_12 : decode cX8_undo 12 = .ok (.iconst 0, 1) := by decide +kernel
theorem dX8_undo_13 : decode cX8_undo 13 = .ok (.invokevirtual 118, 3) := by decide +kernel
theorem dX8_undo_16 : decode cX8_undo 16 = .ok (.ifCond .eq 5, 3) := by decide +kernel
theorem dX8_undo_19 : decode cX8_undo 19 = .ok (.iconst 0, 1) := by decide +kernel
theorem dX8_undo_20 : decode cX8_undo 20 = .ok (.ireturn, 1) := by decide +kernel
theorem dX8_undo_21 : decode cX8_undo 21 = .ok (.aload_n 0, 1) := by decide +kernel
theorem dX8_undo_22 : decode cX8_undo 22 = .ok (.dup, 1) := by decide +kernel
theorem dX8_undo_23 : decode cX8_undo 23 = .ok (.getfield 99, 3) := by decide +kernel
theorem dX8_undo_26 : decode cX8_undo 26 = .ok (.iconst 1, 1) := by decide +kernel
theorem dX8_undo_27 : decode cX8_undo 27 = .ok (.isub, 1) := by decide +kernel
theorem dX8_undo_28 : decode cX8_undo 28 = .ok (.putfield 99, 3) := by decide +kernel
theorem dX8_undo_31 : decode cX8_undo 31 = .ok (.aload_n 0, 1) := by decide +kernel
theorem dX8_undo_32 : decode cX8_undo 32 = .ok (.aload_n 0, 1) := by decide +kernel
theorem dX8_undo_33 : decode cX8_undo 33 = .ok (.getfield 96, 3) := by decide +kernel
theorem dX8_undo_36 : decode cX8_undo 36 = .ok (.bipush 14, 2) := by decide +kernel
theorem dX8_undo_38 : decode cX8_undo 38 = .ok (.iadd, 1) := by decide +kernel
theorem dX8_undo_39 : decode cX8_undo 39 = .ok (.iconst 1, 1) := by decide +kernel
theorem dX8_undo_40 : decode cX8_undo 40 = .ok (.isub, 1) := by decide +kernel
theorem dX8_undo_41 : decode cX8_undo 41 = .ok (.bipush 14, 2) := by decide +kernel
theorem dX8_undo_43 : decode cX8_undo 43 = .ok (.irem, 1) := by decide +kernel
theorem dX8_undo_44 : decode cX8_undo 44 = .ok (.putfield 96, 3) := by decide +kernel
theorem dX8_undo_47 : decode cX8_undo 47 = .ok (.iconst 0, 1) := by decide +kernel
theorem dX8_undo_48 : decode cX8_undo 48 = .ok (.istore_n 1, 1) := by decide +kernel
theorem dX8_undo_49 : decode cX8_undo 49 = .ok (.iload_n 1, 1) := by decide +kernel
theorem dX8_undo_50 : decode cX8_undo 50 = .ok (.bipush 82, 2) := by decide +kernel
theorem dX8_undo_52 : decode cX8_undo 52 = .ok (.if_icmp .ge 29, 3) := by decide +kernel
theorem dX8_undo_55 : decode cX8_undo 55 = .ok (.aload_n 0, 1) := by decide +kernel
theorem dX8_undo_56 : decode cX8_undo 56 = .ok (.getfield 7, 3) := by decide +kernel
theorem dX8_undo_59 : decode cX8_undo 59 = .ok (.iload_n 1, 1) := by decide +kernel
theorem dX8_undo_60 : decode cX8_undo 60 = .ok (.aload_n 0, 1) := by decide +kernel
theorem dX8_undo_61 : decode cX8_undo 61 = .ok (.getfield 16, 3) := by decide +kernel
theorem dX8_undo_64 : decode cX8_undo 64 = .ok (.bipush 82, 2) := by decide +kernel
theorem dX8_undo_66 : decode cX8_undo 66 = .ok (.aload_n 0, 1) := by decide +kernel
theorem dX8_undo_67 : decode cX8_undo 67 = .ok (.getfield 96, 3) := by decide +kernel
theorem dX8_undo_70 : decode cX8_undo 70 = .ok (.imul, 1) := by decide +kernel
theorem dX8_undo_71 : decode cX8_undo 71 = .ok (.iload_n 1, 1) := by decide +kernel
theorem dX8_undo_72 : decode cX8_undo 72 = .ok (.iadd, 1) := by decide +kernel
theorem dX8_undo_73 : decode cX8_undo 73 = .ok (.iaload, 1) := by decide +kernel
theorem dX8_undo_74 : decode cX8_undo 74 = .ok (.iastore, 1) := by decide +kernel
theorem dX8_undo_75 : decode cX8_undo 75 = .ok (.iinc 1 1, 3) := by decide +kernel
theorem dX8_undo_78 : decode cX8_undo 78 = .ok (.goto (-29), 3) := by decide +kernel
theorem dX8_undo_81 : decode cX8_undo 81 = .ok (.aload_n 0, 1) := by decide +kernel
theorem dX8_undo_82 : decode cX8_undo 82 = .ok (.aload_n 0, 1) := by decide +kernel
theorem dX8_undo_83 : decode cX8_undo 83 = .ok (.getfield 7, 3) := by decide +kernel
theorem dX8_undo_86 : decode cX8_undo 86 = .ok (.invokevirtual 106, 3) := by decide +kernel
theorem dX8_undo_89 : decode cX8_undo 89 = .ok (.aload_n 0, 1) := by decide +kernel
theorem dX8_undo_90 : decode cX8_undo 90 = .ok (.getfield 99, 3) := by decide +kernel
theorem dX8_undo_93 : decode cX8_undo 93 = .ok (.ireturn, 1) := by decide +kernel
theorem dX8_level_0 : decode cX8_level 0 = .ok (.aload_n 0, 1) := by decide +kernel
theorem dX8_level_1 : decode cX8_level 1 = .ok (.iconst 0, 1) := by decide +kernel
theorem dX8_level_2 : decode cX8_level 2 = .ok (.putfield 51, 3) := by decide +kernel
theorem dX8_level_5 : decode cX8_level 5 = .ok (.aload_n 0, 1) := by decide +kernel
theorem dX8_level_6 : decode cX8_level 6 = .ok (.getfield 71, 3) := by decide +kernel
theorem dX8_level_9 : decode cX8_level 9 = .ok (.ireturn, 1) := by decide +kernel
theorem dX8_value_0 : decode cX8_value 0 = .ok (.aload_n 0, 1) := by decide +kernel
theorem dX8_value_1 : decode cX8_value 1 = .ok (.iload_n 1, 1) := by decide +kernel
theorem dX8_value_2 : decode cX8_value 2 = .ok (.i2l, 1) := by decide +kernel
theorem dX8_value_3 : decode cX8_value 3 = .ok (.lconst 0, 1) := by decide +kernel
theorem dX8_value_4 : decode cX8_value 4 = .ok (.ldc2_w 167, 3) := by decide +kernel
theorem dX8_value_7 : decode cX8_value 7 = .ok (.invokestatic 111, 3) := by decide +kernel
theorem dX8_value_10 : decode cX8_value 10 = .ok (.ifCond .eq 7, 3) := by decide +kernel
theorem dX8_value_13 : decode cX8_value 13 = .ok (.iconst 0, 1) := by decide +kernel
theorem dX8_value_14 : decode cX8_value 14 = .ok (.goto 4, 3) := by decide +kernel
theorem dX8_value_17 : decode cX8_value 17 = .ok (.iconst 1, 1) := by decide +kernel
theorem dX8_value_18 : decode cX8_value 18 = .ok (.invokevirtual 118, 3) := by decide +kernel
theorem dX8_value_21 : decode cX8_value 21 = .ok (.ifCond .eq 5, 3) := by decide +kernel
theorem dX8_value_24 : decode cX8_value 24 = .ok (.iconst 0, 1) := by decide +kernel
theorem dX8_value_25 : decode cX8_value 25 = .ok (.ireturn, 1) := by decide +kernel
theorem dX8_value_26 : decode cX8_value 26 = .ok (.aload_n 0, 1) := by decide +kernel
theorem dX8_value_27 : decode cX8_value 27 = .ok (.getfield 62, 3) := by decide +kernel
theorem dX8_value_30 : decode cX8_value 30 = .ok (.iload_n 1, 1) := by decide +kernel
theorem dX8_value_31 : decode cX8_value 31 = .ok (.invokestatic 54, 3) := by decide +kernel
theorem dX8_value_34 : decode cX8_value 34 = .ok (.ifCond .ne 7, 3) := by decide +kernel
theorem dX8_value_37 : decode cX8_value 37 = .ok (.iconst 2, 1) := by decide +kernel
theorem dX8_value_38 : decode cX8_value 38 = .ok (.goto 19, 3) := by decide +kernel
theorem dX8_value_41 : decode cX8_value 41 = .ok (.aload_n 0, 1) := by decide +kernel
theorem dX8_value_42 : decode cX8_value 42 = .ok (.getfield 65, 3) := by decide +kernel
theorem dX8_value_45 : decode cX8_value 45 = .ok (.iload_n 1, 1) := by decide +kernel
theorem dX8_value_46 : decode cX8_value 46 = .ok (.invokestatic 54, 3) := by decide +kernel
theorem dX8_value_49 : decode cX8_value 49 = .ok (.ifCond .eq 7, 3) := by decide +kernel
theorem dX8_value_52 : decode cX8_value 52 = .ok (.iconst 1, 1) := by decide +kernel
theorem dX8_value_53 : decode cX8_value 53 = .ok (.goto 4, 3) := by decide +kernel
theorem dX8_value_56 : decode cX8_value 56 = .ok (.iconst 0, 1) := by decide +kernel
theorem dX8_value_57 : decode cX8_value 57 = .ok (.ireturn, 1) := by decide +kernel
theorem dX8_trailLiteral_0 : decode cX8_trailLiteral 0 = .ok (.aload_n 0, 1) := by decide +kernel
theorem dX8_trailLiteral_1 : decode cX8_trailLiteral 1 = .ok (.iload_n 1, 1) := by decide +kernel
theorem dX8_trailLiteral_2 : decode cX8_trailLiteral 2 = .ok (.i2l, 1) := by decide +kernel
theorem dX8_trailLiteral_3 : decode cX8_trailLiteral 3 = .ok (.lconst 0, 1) := by decide +kernel
theorem dX8_trailLiteral_4 : decode cX8_trailLiteral 4 = .ok (.aload_n 0, 1) := by decide +kernel
theorem dX8_trailLiteral_5 : decode cX8_trailLiteral 5 = .ok (.getfield 68, 3) := by decide +kernel
theorem dX8_trailLiteral_8 : decode cX8_trailLiteral 8 = .ok (.iconst 1, 1) := by decide +kernel
theorem dX8_trailLiteral_9 : decode cX8_trailLiteral 9 = .ok (.isub, 1) := by decide +kernel
theorem dX8_trailLiteral_10 : decode cX8_trailLiteral 10 = .ok (.i2l, 1) := by decide +kernel
theorem dX8_trailLiteral_11 : decode cX8_trailLiteral 11 = .ok (.invokestatic 111, 3) := by decide +kernel
theorem dX8_trailLiteral_14 : decode cX8_trailLiteral 14 = .ok (.ifCond .eq 7, 3) := by decide +kernel
theorem dX8_trailLiteral_17 : decode cX8_trailLiteral 17 = .ok (.iconst 0, 1) := by decide +kernel
theorem dX8_trailLiteral_18 : decode cX8_trailLiteral 18 = .ok (.goto 4, 3) := by decide +kernel
theorem dX8_trailLiteral_21 : decode cX8_trailLiteral 21 = .ok (.iconst 1, 1) := by decide +kernel
theorem dX8_trailLiteral_22 : decode cX8_trailLiteral 22 = .ok (.invokevirtual 118, 3) := by decide +kernel
theorem dX8_trailLiteral_25 : decode cX8_trailLiteral 25 = .ok (.ifCond .eq 5, 3) := by decide +kernel
theorem dX8_trailLiteral_28 : decode cX8_trailLiteral 28 = .ok (.iconst 0, 1) := by decide +kernel
theorem dX8_trailLiteral_29 : decode cX8_trailLiteral 29 = .ok (.ireturn, 1) := by decide +kernel
theorem dX8_trailLiteral_30 : decode cX8_trailLiteral 30 = .ok (.aload_n 0, 1) := by decide +kernel
theorem dX8_trailLiteral_31 : decode cX8_trailLiteral 31 = .ok (.getfield 26, 3) := by decide +kernel
theorem dX8_trailLiteral_34 : decode cX8_trailLiteral 34 = .ok (.iload_n 1, 1) := by decide +kernel
theorem dX8_trailLiteral_35 : decode cX8_trailLiteral 35 = .ok (.iaload, 1) := by decide +kernel
theorem dX8_trailLiteral_36 : decode cX8_trailLiteral 36 = .ok (.ireturn, 1) := by decide +kernel
theorem dX8_reason_0 : decode cX8_reason 0 = .ok (.aload_n 0, 1) := by decide +kernel
theorem dX8_reason_1 : decode cX8_reason 1 = .ok (.iload_n 1, 1) := by decide +kernel
theorem dX8_reason_2 : decode cX8_reason 2 = .ok (.i2l, 1) := by decide +kernel
theorem dX8_reason_3 : decode cX8_reason 3 = .ok (.lconst 0, 1) := by decide +kernel
theorem dX8_reason_4 : decode cX8_reason 4 = .ok (.ldc2_w 167, 3) := by decide +kernel
theorem dX8_reason_7 : decode cX8_reason 7 = .ok (.invokestatic 111, 3) := by decide +kernel
theorem dX8_reason_10 : decode cX8_reason 10 = .ok (.ifCond .eq 7, 3) := by decide +kernel
theorem dX8_reason_13 : decode cX8_reason 13 = .ok (.iconst 0, 1) := by decide +kernel
theorem dX8_reason_14 : decode cX8_reason 14 = .ok (.goto 4, 3) := by decide +kernel
theorem dX8_reason_17 : decode cX8_reason 17 = .ok (.iconst 1, 1) := by decide +kernel
theorem dX8_reason_18 : decode cX8_reason 18 = .ok (.invokevirtual 118, 3) := by decide +kernel
theorem dX8_reason_21 : decode cX8_reason 21 = .ok (.ifCond .eq 5, 3) := by decide +kernel
theorem dX8_reason_24 : decode cX8_reason 24 = .ok (.iconst 0, 1) := by decide +kernel
theorem dX8_reason_25 : decode cX8_reason 25 = .ok (.ireturn, 1) := by decide +kernel
theorem dX8_reason_26 : decode cX8_reason 26 = .ok (.aload_n 0, 1) := by decide +kernel
theorem dX8_reason_27 : decode cX8_reason 27 = .ok (.getfield 32, 3) := by decide +kernel
theorem dX8_reason_30 : decode cX8_reason 30 = .ok (.iload_n 1, 1) := by decide +kernel
theorem dX8_reason_31 : decode cX8_reason 31 = .ok (.iaload, 1) := by decide +kernel
theorem dX8_reason_32 : decode cX8_reason 32 = .ok (.ireturn, 1) := by decide +kernel
theorem dX8_conflict_0 : decode cX8_conflict 0 = .ok (.aload_n 0, 1) := by decide +kernel
theorem dX8_conflict_1 : decode cX8_conflict 1 = .ok (.iconst 0, 1) := by decide +kernel
theorem dX8_conflict_2 : decode cX8_conflict 2 = .ok (.putfield 51, 3) := by decide +kernel
theorem dX8_conflict_5 : decode cX8_conflict 5 = .ok (.aload_n 0, 1) := by decide +kernel
theorem dX8_conflict_6 : decode cX8_conflict 6 = .ok (.getfield 38, 3) := by decide +kernel
theorem dX8_conflict_9 : decode cX8_conflict 9 = .ok (.ireturn, 1) := by decide +kernel
theorem dX8_learnedClause_0 : decode cX8_learnedClause 0 = .ok (.aload_n 0, 1) := by decide +kernel
theorem dX8_learnedClause_1 : decode cX8_learnedClause 1 = .ok (.aload_n 0, 1) := by decide +kernel
theorem dX8_learnedClause_2 : decode cX8_learnedClause 2 = .ok (.invokevirtual 183, 3) := by decide +kernel
theorem dX8_learnedClause_5 : decode cX8_learnedClause 5 = .ok (.ifCond .eq 7, 3) := by decide +kernel
theorem dX8_learnedClause_8 : decode cX8_learnedClause 8 = .ok (.iconst 0, 1) := by decide +kernel
theorem dX8_learnedClause_9 : decode cX8_learnedClause 9 = .ok (.goto 4, 3) := by decide +kernel
theorem dX8_learnedClause_12 : decode cX8_learnedClause 12 = .ok (.iconst 1, 1) := by decide +kernel
theorem dX8_learnedClause_13 : decode cX8_learnedClause 13 = .ok (.invokevirtual 118, 3) := by decide +kernel
theorem dX8_learnedClause_16 : decode cX8_learnedClause 16 = .ok (.ifCond .eq 5, 3) := by decide +kernel
theorem dX8_learnedClause_19 : decode cX8_learnedClause 19 = .ok (.iconst 0, 1) := by decide +kernel
theorem dX8_learnedClause_20 : decode cX8_learnedClause 20 = .ok (.ireturn, 1) := by decide +kernel
theorem dX8_learnedClause_21 : decode cX8_learnedClause 21 = .ok (.aload_n 0, 1) := by decide +kernel
theorem dX8_learnedClause_22 : decode cX8_learnedClause 22 = .ok (.aload_n 0, 1) := by decide +kernel
theorem dX8_learnedClause_23 : decode cX8_learnedClause 23 = .ok (.getfield 7, 3) := by decide +kernel
theorem dX8_learnedClause_26 : decode cX8_learnedClause 26 = .ok (.invokevirtual 186, 3) := by decide +kernel
theorem dX8_learnedClause_29 : decode cX8_learnedClause 29 = .ok (.pop, 1) := by decide +kernel
theorem dX8_learnedClause_30 : decode cX8_learnedClause 30 = .ok (.sipush 256, 3) := by decide +kernel
theorem dX8_learnedClause_33 : decode cX8_learnedClause 33 = .ok (.aload_n 0, 1) := by decide +kernel
theorem dX8_learnedClause_34 : decode cX8_learnedClause 34 = .ok (.getfield 180, 3) := by decide +kernel
theorem dX8_learnedClause_37 : decode cX8_learnedClause 37 = .ok (.imul, 1) := by decide +kernel
theorem dX8_learnedClause_38 : decode cX8_learnedClause 38 = .ok (.aload_n 0, 1) := by decide +kernel
theorem dX8_learnedClause_39 : decode cX8_learnedClause 39 = .ok (.getfield 177, 3) := by decide +kernel
theorem dX8_learnedClause_42 : decode cX8_learnedClause 42 = .ok (.iadd, 1) := by decide +kernel
theorem dX8_learnedClause_43 : decode cX8_learnedClause 43 = .ok (.ireturn, 1) := by decide +kernel
theorem dX8_isModel_0 : decode cX8_isModel 0 = .ok (.iconst 1, 1) := by decide +kernel
theorem dX8_isModel_1 : decode cX8_isModel 1 = .ok (.istore_n 3, 1) := by decide +kernel
theorem dX8_isModel_2 : decode cX8_isModel 2 = .ok (.iconst 0, 1) := by decide +kernel
theorem dX8_isModel_3 : decode cX8_isModel 3 = .ok (.istore 4, 2) := by decide +kernel
theorem dX8_isModel_5 : decode cX8_isModel 5 = .ok (.iload 4, 2) := by decide +kernel
theorem dX8_isModel_7 : decode cX8_isModel 7 = .ok (.aload_n 0, 1) := by decide +kernel
theorem dX8_isModel_8 : decode cX8_isModel 8 = .ok (.getfield 7, 3) := by decide +kernel
theorem dX8_isModel_11 : decode cX8_isModel 11 = .ok (.iconst 0, 1) := by decide +kernel
theorem dX8_isModel_12 : decode cX8_isModel 12 = .ok (.iaload, 1) := by decide +kernel
theorem dX8_isModel_13 : decode cX8_isModel 13 = .ok (.if_icmp .ge 41, 3) := by decide +kernel
theorem dX8_isModel_16 : decode cX8_isModel 16 = .ok (.iload_n 3, 1) := by decide +kernel
theorem dX8_isModel_17 : decode cX8_isModel 17 = .ok (.ifCond .eq 37, 3) := by decide +kernel
theorem dX8_isModel_20 : decode cX8_isModel 20 = .ok (.iload_n 2, 1) := by decide +kernel
theorem dX8_isModel_21 : decode cX8_isModel 21 = .ok (.iload 4, 2) := by decide +kernel
theorem dX8_isModel_23 : decode cX8_isModel 23 = .ok (.invokestatic 54, 3) := by decide +kernel
theorem dX8_isModel_26 : decode cX8_isModel 26 = .ok (.ifCond .eq 16, 3) := by decide +kernel
theorem dX8_isModel_29 : decode cX8_isModel 29 = .ok (.aload_n 0, 1) := by decide +kernel
theorem dX8_isModel_30 : decode cX8_isModel 30 = .ok (.getfield 7, 3) := by decide +kernel
theorem dX8_isModel_33 : decode cX8_isModel 33 = .ok (.iload 4, 2) := by decide +kernel
theorem dX8_isModel_35 : decode cX8_isModel 35 = .ok (.iload_n 1, 1) := by decide +kernel
theorem dX8_isModel_36 : decode cX8_isModel 36 = .ok (.invokestatic 78, 3) := by decide +kernel
theorem dX8_isModel_39 : decode cX8_isModel 39 = .ok (.ifCond .eq 7, 3) := by decide +kernel
theorem dX8_isModel_42 : decode cX8_isModel 42 = .ok (.iconst 1, 1) := by decide +kernel
theorem dX8_isModel_43 : decode cX8_isModel 43 = .ok (.goto 4, 3) := by decide +kernel
theorem dX8_isModel_46 : decode cX8_isModel 46 = .ok (.iconst 0, 1) := by decide +kernel
theorem dX8_isModel_47 : decode cX8_isModel 47 = .ok (.istore_n 3, 1) := by decide +kernel
theorem dX8_isModel_48 : decode cX8_isModel 48 = .ok (.iinc 4 1, 3) := by decide +kernel
theorem dX8_isModel_51 : decode cX8_isModel 51 = .ok (.goto (-46), 3) := by decide +kernel
theorem dX8_isModel_54 : decode cX8_isModel 54 = .ok (.iload_n 3, 1) := by decide +kernel
theorem dX8_isModel_55 : decode cX8_isModel 55 = .ok (.ireturn, 1) := by decide +kernel
theorem dX8_everything_0 : decode cX8_everything 0 = .ok (.iconst 1, 1) := by decide +kernel
theorem dX8_everything_1 : decode cX8_everything 1 = .ok (.aload_n 0, 1) := by decide +kernel
theorem dX8_everything_2 : decode cX8_everything 2 = .ok (.getfield 7, 3) := by decide +kernel
theorem dX8_everything_5 : decode cX8_everything 5 = .ok (.iconst 0, 1) := by decide +kernel
theorem dX8_everything_6 : decode cX8_everything 6 = .ok (.iaload, 1) := by decide +kernel
theorem dX8_everything_7 : decode cX8_everything 7 = .ok (.ishl, 1) := by decide +kernel
theorem dX8_everything_8 : decode cX8_everything 8 = .ok (.iconst 1, 1) := by decide +kernel
theorem dX8_everything_9 : decode cX8_everything 9 = .ok (.isub, 1) := by decide +kernel
theorem dX8_everything_10 : decode cX8_everything 10 = .ok (.ireturn, 1) := by decide +kernel
theorem dX8_modelCount_0 : decode cX8_modelCount 0 = .ok (.aload_n 0, 1) := by decide +kernel
theorem dX8_modelCount_1 : decode cX8_modelCount 1 = .ok (.iconst 0, 1) := by decide +kernel
theorem dX8_modelCount_2 : decode cX8_modelCount 2 = .ok (.putfield 51, 3) := by decide +kernel
theorem dX8_modelCount_5 : decode cX8_modelCount 5 = .ok (.iconst 0, 1) := by decide +kernel
theorem dX8_modelCount_6 : decode cX8_modelCount 6 = .ok (.istore_n 1, 1) := by decide +kernel
theorem dX8_modelCount_7 : decode cX8_modelCount 7 = .ok (.iconst 0, 1) := by decide +kernel
theorem dX8_modelCount_8 : decode cX8_modelCount 8 = .ok (.istore_n 2, 1) := by decide +kernel
theorem dX8_modelCount_9 : decode cX8_modelCount 9 = .ok (.iload_n 2, 1) := by decide +kernel
theorem dX8_modelCount_10 : decode cX8_modelCount 10 = .ok (.sipush 255, 3) := by decide +kernel
theorem dX8_modelCount_13 : decode cX8_modelCount 13 = .ok (.if_icmp .gt 29, 3) := by decide +kernel
theorem dX8_modelCount_16 : decode cX8_modelCount 16 = .ok (.iload_n 1, 1) := by decide +kernel
theorem dX8_modelCount_17 : decode cX8_modelCount 17 = .ok (.aload_n 0, 1) := by decide +kernel
theorem dX8_modelCount_18 : decode cX8_modelCount 18 = .ok (.iload_n 2, 1) := by decide +kernel
theorem dX8_modelCount_19 : decode cX8_modelCount 19 = .ok (.aload_n 0, 1) := by decide +kernel
theorem dX8_modelCount_20 : decode cX8_modelCount 20 = .ok (.invokevirtual 190, 3) := by decide +kernel
theorem dX8_modelCount_23 : decode cX8_modelCount 23 = .ok (.invokevirtual 193, 3) := by decide +kernel
theorem dX8_modelCount_26 : decode cX8_modelCount 26 = .ok (.ifCond .eq 7, 3) := by decide +kernel
theorem dX8_modelCount_29 : decode cX8_modelCount 29 = .ok (.iconst 1, 1) := by decide +kernel
theorem dX8_modelCount_30 : decode cX8_modelCount 30 = .ok (.goto 4, 3) := by decide +kernel
theorem dX8_modelCount_33 : decode cX8_modelCount 33 = .ok (.iconst 0, 1) := by decide +kernel
theorem dX8_modelCount_34 : decode cX8_modelCount 34 = .ok (.iadd, 1) := by decide +kernel
theorem dX8_modelCount_35 : decode cX8_modelCount 35 = .ok (.istore_n 1, 1) := by decide +kernel
theorem dX8_modelCount_36 : decode cX8_modelCount 36 = .ok (.iinc 2 1, 3) := by decide +kernel
theorem dX8_modelCount_39 : decode cX8_modelCount 39 = .ok (.goto (-30), 3) := by decide +kernel
theorem dX8_modelCount_42 : decode cX8_modelCount 42 = .ok (.iload_n 1, 1) := by decide +kernel
theorem dX8_modelCount_43 : decode cX8_modelCount 43 = .ok (.ireturn, 1) := by decide +kernel
theorem dX8_model_0 : decode cX8_model 0 = .ok (.aload_n 0, 1) := by decide +kernel
theorem dX8_model_1 : decode cX8_model 1 = .ok (.iconst 0, 1) := by decide +kernel
theorem dX8_model_2 : decode cX8_model 2 = .ok (.putfield 51, 3) := by decide +kernel
theorem dX8_model_5 : decode cX8_model 5 = .ok (.iconst 0, 1) := by decide +kernel
theorem dX8_model_6 : decode cX8_model 6 = .ok (.istore_n 2, 1) := by decide +kernel
theorem dX8_model_7 : decode cX8_model 7 = .ok (.iconst 0, 1) := by decide +kernel
theorem dX8_model_8 : decode cX8_model 8 = .ok (.istore_n 3, 1) := by decide +kernel
theorem dX8_model_9 : decode cX8_model 9 = .ok (.iload_n 3, 1) := by decide +kernel
theorem dX8_model_10 : decode cX8_model 10 = .ok (.sipush 255, 3) := by decide +kernel
theorem dX8_model_13 : decode cX8_model 13 = .ok (.if_icmp .gt 31, 3) := by decide +kernel
theorem dX8_model_16 : decode cX8_model 16 = .ok (.aload_n 0, 1) := by decide +kernel
theorem dX8_model_17 : decode cX8_model 17 = .ok (.iload_n 3, 1) := by decide +kernel
theorem dX8_model_18 : decode cX8_model 18 = .ok (.aload_n 0, 1) := by decide +kernel
theorem dX8_model_19 : decode cX8_model 19 = .ok (.invokevirtual 190, 3) := by decide +kernel
theorem dX8_model_22 : decode cX8_model 22 = .ok (.invokevirtual 193, 3) := by decide +kernel
theorem dX8_model_25 : decode cX8_model 25 = .ok (.ifCond .eq 13, 3) := by decide +kernel
theorem dX8_model_28 : decode cX8_model 28 = .ok (.iload_n 2, 1) := by decide +kernel
theorem dX8_model_29 : decode cX8_model 29 = .ok (.iload_n 1, 1) := by decide +kernel
theorem dX8_model_30 : decode cX8_model 30 = .ok (.if_icmp .ne 5, 3) := by decide +kernel
theorem dX8_model_33 : decode cX8_model 33 = .ok (.iload_n 3, 1) := by decide +kernel
theorem dX8_model_34 : decode cX8_model 34 = .ok (.ireturn, 1) := by decide +kernel
theorem dX8_model_35 : decode cX8_model 35 = .ok (.iinc 2 1, 3) := by decide +kernel
theorem dX8_model_38 : decode cX8_model 38 = .ok (.iinc 3 1, 3) := by decide +kernel
theorem dX8_model_41 : decode cX8_model 41 = .ok (.goto (-32), 3) := by decide +kernel
theorem dX8_model_44 : decode cX8_model 44 = .ok (.bipush (-9), 2) := by decide +kernel
theorem dX8_model_46 : decode cX8_model 46 = .ok (.ireturn, 1) := by decide +kernel
theorem dX8_implies_0 : decode cX8_implies 0 = .ok (.aload_n 0, 1) := by decide +kernel
theorem dX8_implies_1 : decode cX8_implies 1 = .ok (.getfield 13, 3) := by decide +kernel
theorem dX8_implies_4 : decode cX8_implies 4 = .ok (.iconst 1, 1) := by decide +kernel
theorem dX8_implies_5 : decode cX8_implies 5 = .ok (.iload_n 1, 1) := by decide +kernel
theorem dX8_implies_6 : decode cX8_implies 6 = .ok (.iastore, 1) := by decide +kernel
theorem dX8_implies_7 : decode cX8_implies 7 = .ok (.aload_n 0, 1) := by decide +kernel
theorem dX8_implies_8 : decode cX8_implies 8 = .ok (.getfield 13, 3) := by decide +kernel
theorem dX8_implies_11 : decode cX8_implies 11 = .ok (.bipush 25, 2) := by decide +kernel
theorem dX8_implies_13 : decode cX8_implies 13 = .ok (.iload_n 2, 1) := by decide +kernel
theorem dX8_implies_14 : decode cX8_implies 14 = .ok (.iastore, 1) := by decide +kernel
theorem dX8_implies_15 : decode cX8_implies 15 = .ok (.aload_n 0, 1) := by decide +kernel
theorem dX8_implies_16 : decode cX8_implies 16 = .ok (.getfield 13, 3) := by decide +kernel
theorem dX8_implies_19 : decode cX8_implies 19 = .ok (.bipush 49, 2) := by decide +kernel
theorem dX8_implies_21 : decode cX8_implies 21 = .ok (.iload_n 3, 1) := by decide +kernel
theorem dX8_implies_22 : decode cX8_implies 22 = .ok (.iastore, 1) := by decide +kernel
theorem dX8_implies_23 : decode cX8_implies 23 = .ok (.iconst 1, 1) := by decide +kernel
theorem dX8_implies_24 : decode cX8_implies 24 = .ok (.istore 4, 2) := by decide +kernel
theorem dX8_implies_26 : decode cX8_implies 26 = .ok (.iconst 0, 1) := by decide +kernel
theorem dX8_implies_27 : decode cX8_implies 27 = .ok (.istore 5, 2) := by decide +kernel
theorem dX8_implies_29 : decode cX8_implies 29 = .ok (.iload 5, 2) := by decide +kernel
theorem dX8_implies_31 : decode cX8_implies 31 = .ok (.sipush 255, 3) := by decide +kernel
theorem dX8_implies_34 : decode cX8_implies 34 = .ok (.if_icmp .gt 47, 3) := by decide +kernel
theorem dX8_implies_37 : decode cX8_implies 37 = .ok (.iload 4, 2) := by decide +kernel
theorem dX8_implies_39 : decode cX8_implies 39 = .ok (.ifCond .eq 33, 3) := by decide +kernel
theorem dX8_implies_42 : decode cX8_implies 42 = .ok (.aload_n 0, 1) := by decide +kernel
theorem dX8_implies_43 : decode cX8_implies 43 = .ok (.getfield 13, 3) := by decide +kernel
theorem dX8_implies_46 : decode cX8_implies 46 = .ok (.iconst 0, 1) := by decide +kernel
theorem dX8_implies_47 : decode cX8_implies 47 = .ok (.iload 5, 2) := by decide +kernel
theorem dX8_implies_49 : decode cX8_implies 49 = .ok (.invokestatic 78, 3) := by decide +kernel
theorem dX8_implies_52 : decode cX8_implies 52 = .ok (.ifCond .ne 16, 3) := by decide +kernel
theorem dX8_implies_55 : decode cX8_implies 55 = .ok (.aload_n 0, 1) := by decide +kernel
theorem dX8_implies_56 : decode cX8_implies 56 = .ok (.iload 5, 2) := by decide +kernel
theorem dX8_implies_58 : decode cX8_implies 58 = .ok (.aload_n 0, 1) := by decide +kernel
theorem dX8_implies_59 : decode cX8_implies 59 = .ok (.invokevirtual 190, 3) := by decide +kernel
theorem dX8_implies_62 : decode cX8_implies 62 = .ok (.invokevirtual 193, 3) := by decide +kernel
theorem dX8_implies_65 : decode cX8_implies 65 = .ok (.ifCond .ne 7, 3) := by decide +kernel
theorem dX8_implies_68 : decode cX8_implies 68 = .ok (.iconst 1, 1) := by decide +kernel
theorem dX8_implies_69 : decode cX8_implies 69 = .ok (.goto 4, 3) := by decide +kernel
theorem dX8_implies_72 : decode cX8_implies 72 = .ok (.iconst 0, 1) := by decide +kernel
theorem dX8_implies_73 : decode cX8_implies 73 = .ok (.istore 4, 2) := by decide +kernel
theorem dX8_implies_75 : decode cX8_implies 75 = .ok (.iinc 5 1, 3) := by decide +kernel
theorem dX8_implies_78 : decode cX8_implies 78 = .ok (.goto (-49), 3) := by decide +kernel
theorem dX8_implies_81 : decode cX8_implies 81 = .ok (.iload 4, 2) := by decide +kernel
theorem dX8_implies_83 : decode cX8_implies 83 = .ok (.ireturn, 1) := by decide +kernel
theorem dX8_impliesClause_0 : decode cX8_impliesClause 0 = .ok (.aload_n 0, 1) := by decide +kernel
theorem dX8_impliesClause_1 : decode cX8_impliesClause 1 = .ok (.iload_n 1, 1) := by decide +kernel
theorem dX8_impliesClause_2 : decode cX8_impliesClause 2 = .ok (.iload_n 2, 1) := by decide +kernel
theorem dX8_impliesClause_3 : decode cX8_impliesClause 3 = .ok (.invokestatic 157, 3) := by decide +kernel
theorem dX8_impliesClause_6 : decode cX8_impliesClause 6 = .ok (.ifCond .eq 7, 3) := by decide +kernel
theorem dX8_impliesClause_9 : decode cX8_impliesClause 9 = .ok (.iconst 0, 1) := by decide +kernel
theorem dX8_impliesClause_10 : decode cX8_impliesClause 10 = .ok (.goto 4, 3) := by decide +kernel
theorem dX8_impliesClause_13 : decode cX8_impliesClause 13 = .ok (.iconst 1, 1) := by decide +kernel
theorem dX8_impliesClause_14 : decode cX8_impliesClause 14 = .ok (.invokevirtual 118, 3) := by decide +kernel
theorem dX8_impliesClause_17 : decode cX8_impliesClause 17 = .ok (.ifCond .eq 5, 3) := by decide +kernel
end
section
theorem dX8_impliesClause_20 : decode cX8_impliesClause 20 = .ok (.iconst 0, 1) := by decide +kernel
theorem dX8_impliesClause_21 : decode cX8_impliesClause 21 = .ok (.ireturn, 1) := by decide +kernel
theorem dX8_impliesClause_22 : decode cX8_impliesClause 22 = .ok (.aload_n 0, 1) := by decide +kernel
theorem dX8_impliesClause_23 : decode cX8_impliesClause 23 = .ok (.iconst 0, 1) := by decide +kernel
theorem dX8_impliesClause_24 : decode cX8_impliesClause 24 = .ok (.iload_n 1, 1) := by decide +kernel
theorem dX8_impliesClause_25 : decode cX8_impliesClause 25 = .ok (.iload_n 2, 1) := by decide +kernel
theorem dX8_impliesClause_26 : decode cX8_impliesClause 26 = .ok (.invokevirtual 196, 3) := by decide +kernel
theorem dX8_impliesClause_29 : decode cX8_impliesClause 29 = .ok (.ireturn, 1) := by decide +kernel
theorem dX8_impliesParity_0 : decode cX8_impliesParity 0 = .ok (.aload_n 0, 1) := by decide +kernel
theorem dX8_impliesParity_1 : decode cX8_impliesParity 1 = .ok (.iload_n 1, 1) := by decide +kernel
theorem dX8_impliesParity_2 : decode cX8_impliesParity 2 = .ok (.iload_n 2, 1) := by decide +kernel
theorem dX8_impliesParity_3 : decode cX8_impliesParity 3 = .ok (.invokestatic 164, 3) := by decide +kernel
theorem dX8_impliesParity_6 : decode cX8_impliesParity 6 = .ok (.ifCond .eq 7, 3) := by decide +kernel
theorem dX8_impliesParity_9 : decode cX8_impliesParity 9 = .ok (.iconst 0, 1) := by decide +kernel
theorem dX8_impliesParity_10 : decode cX8_impliesParity 10 = .ok (.goto 4, 3) := by decide +kernel
theorem dX8_impliesParity_13 : decode cX8_impliesParity 13 = .ok (.iconst 1, 1) := by decide +kernel
theorem dX8_impliesParity_14 : decode cX8_impliesParity 14 = .ok (.invokevirtual 118, 3) := by decide +kernel
theorem dX8_impliesParity_17 : decode cX8_impliesParity 17 = .ok (.ifCond .eq 5, 3) := by decide +kernel
theorem dX8_impliesParity_20 : decode cX8_impliesParity 20 = .ok (.iconst 0, 1) := by decide +kernel
theorem dX8_impliesParity_21 : decode cX8_impliesParity 21 = .ok (.ireturn, 1) := by decide +kernel
theorem dX8_impliesParity_22 : decode cX8_impliesParity 22 = .ok (.aload_n 0, 1) := by decide +kernel
theorem dX8_impliesParity_23 : decode cX8_impliesParity 23 = .ok (.iconst 1, 1) := by decide +kernel
theorem dX8_impliesParity_24 : decode cX8_impliesParity 24 = .ok (.iload_n 1, 1) := by decide +kernel
theorem dX8_impliesParity_25 : decode cX8_impliesParity 25 = .ok (.iload_n 2, 1) := by decide +kernel
theorem dX8_impliesParity_26 : decode cX8_impliesParity 26 = .ok (.invokevirtual 196, 3) := by decide +kernel
theorem dX8_impliesParity_29 : decode cX8_impliesParity 29 = .ok (.ireturn, 1) := by decide +kernel
theorem dX8_hasModel_0 : decode cX8_hasModel 0 = .ok (.iconst 0, 1) := by decide +kernel
theorem dX8_hasModel_1 : decode cX8_hasModel 1 = .ok (.istore_n 2, 1) := by decide +kernel
theorem dX8_hasModel_2 : decode cX8_hasModel 2 = .ok (.iconst 0, 1) := by decide +kernel
theorem dX8_hasModel_3 : decode cX8_hasModel 3 = .ok (.istore_n 3, 1) := by decide +kernel
theorem dX8_hasModel_4 : decode cX8_hasModel 4 = .ok (.iload_n 3, 1) := by decide +kernel
theorem dX8_hasModel_5 : decode cX8_hasModel 5 = .ok (.sipush 255, 3) := by decide +kernel
theorem dX8_hasModel_8 : decode cX8_hasModel 8 = .ok (.if_icmp .gt 20, 3) := by decide +kernel
theorem dX8_hasModel_11 : decode cX8_hasModel 11 = .ok (.iload_n 2, 1) := by decide +kernel
theorem dX8_hasModel_12 : decode cX8_hasModel 12 = .ok (.ifCond .ne 16, 3) := by decide +kernel
theorem dX8_hasModel_15 : decode cX8_hasModel 15 = .ok (.aload_n 0, 1) := by decide +kernel
theorem dX8_hasModel_16 : decode cX8_hasModel 16 = .ok (.iload_n 3, 1) := by decide +kernel
theorem dX8_hasModel_17 : decode cX8_hasModel 17 = .ok (.iload_n 1, 1) := by decide +kernel
theorem dX8_hasModel_18 : decode cX8_hasModel 18 = .ok (.invokevirtual 193, 3) := by decide +kernel
theorem dX8_hasModel_21 : decode cX8_hasModel 21 = .ok (.istore_n 2, 1) := by decide +kernel
theorem dX8_hasModel_22 : decode cX8_hasModel 22 = .ok (.iinc 3 1, 3) := by decide +kernel
theorem dX8_hasModel_25 : decode cX8_hasModel 25 = .ok (.goto (-21), 3) := by decide +kernel
theorem dX8_hasModel_28 : decode cX8_hasModel 28 = .ok (.iload_n 2, 1) := by decide +kernel
theorem dX8_hasModel_29 : decode cX8_hasModel 29 = .ok (.ireturn, 1) := by decide +kernel
theorem dX8_core_0 : decode cX8_core 0 = .ok (.aload_n 0, 1) := by decide +kernel
theorem dX8_core_1 : decode cX8_core 1 = .ok (.iconst 0, 1) := by decide +kernel
theorem dX8_core_2 : decode cX8_core 2 = .ok (.putfield 51, 3) := by decide +kernel
theorem dX8_core_5 : decode cX8_core 5 = .ok (.aload_n 0, 1) := by decide +kernel
theorem dX8_core_6 : decode cX8_core 6 = .ok (.invokevirtual 190, 3) := by decide +kernel
theorem dX8_core_9 : decode cX8_core 9 = .ok (.istore_n 1, 1) := by decide +kernel
theorem dX8_core_10 : decode cX8_core 10 = .ok (.aload_n 0, 1) := by decide +kernel
theorem dX8_core_11 : decode cX8_core 11 = .ok (.iload_n 1, 1) := by decide +kernel
theorem dX8_core_12 : decode cX8_core 12 = .ok (.invokevirtual 200, 3) := by decide +kernel
theorem dX8_core_15 : decode cX8_core 15 = .ok (.ifCond .eq 6, 3) := by decide +kernel
theorem dX8_core_18 : decode cX8_core 18 = .ok (.bipush (-9), 2) := by decide +kernel
theorem dX8_core_20 : decode cX8_core 20 = .ok (.ireturn, 1) := by decide +kernel
theorem dX8_core_21 : decode cX8_core 21 = .ok (.iconst 0, 1) := by decide +kernel
theorem dX8_core_22 : decode cX8_core 22 = .ok (.istore_n 2, 1) := by decide +kernel
theorem dX8_core_23 : decode cX8_core 23 = .ok (.iload_n 2, 1) := by decide +kernel
theorem dX8_core_24 : decode cX8_core 24 = .ok (.aload_n 0, 1) := by decide +kernel
theorem dX8_core_25 : decode cX8_core 25 = .ok (.getfield 7, 3) := by decide +kernel
theorem dX8_core_28 : decode cX8_core 28 = .ok (.iconst 0, 1) := by decide +kernel
theorem dX8_core_29 : decode cX8_core 29 = .ok (.iaload, 1) := by decide +kernel
theorem dX8_core_30 : decode cX8_core 30 = .ok (.if_icmp .ge 35, 3) := by decide +kernel
theorem dX8_core_33 : decode cX8_core 33 = .ok (.aload_n 0, 1) := by decide +kernel
theorem dX8_core_34 : decode cX8_core 34 = .ok (.iload_n 1, 1) := by decide +kernel
theorem dX8_core_35 : decode cX8_core 35 = .ok (.iconst 1, 1) := by decide +kernel
theorem dX8_core_36 : decode cX8_core 36 = .ok (.iload_n 2, 1) := by decide +kernel
theorem dX8_core_37 : decode cX8_core 37 = .ok (.ishl, 1) := by decide +kernel
theorem dX8_core_38 : decode cX8_core 38 = .ok (.iconst (-1), 1) := by decide +kernel
theorem dX8_core_39 : decode cX8_core 39 = .ok (.ixor, 1) := by decide +kernel
theorem dX8_core_40 : decode cX8_core 40 = .ok (.iand, 1) := by decide +kernel
theorem dX8_core_41 : decode cX8_core 41 = .ok (.invokevirtual 200, 3) := by decide +kernel
theorem dX8_core_44 : decode cX8_core 44 = .ok (.ifCond .eq 7, 3) := by decide +kernel
theorem dX8_core_47 : decode cX8_core 47 = .ok (.iload_n 1, 1) := by decide +kernel
theorem dX8_core_48 : decode cX8_core 48 = .ok (.goto 10, 3) := by decide +kernel
theorem dX8_core_51 : decode cX8_core 51 = .ok (.iload_n 1, 1) := by decide +kernel
theorem dX8_core_52 : decode cX8_core 52 = .ok (.iconst 1, 1) := by decide +kernel
theorem dX8_core_53 : decode cX8_core 53 = .ok (.iload_n 2, 1) := by decide +kernel
theorem dX8_core_54 : decode cX8_core 54 = .ok (.ishl, 1) := by decide +kernel
theorem dX8_core_55 : decode cX8_core 55 = .ok (.iconst (-1), 1) := by decide +kernel
theorem dX8_core_56 : decode cX8_core 56 = .ok (.ixor, 1) := by decide +kernel
theorem dX8_core_57 : decode cX8_core 57 = .ok (.iand, 1) := by decide +kernel
theorem dX8_core_58 : decode cX8_core 58 = .ok (.istore_n 1, 1) := by decide +kernel
theorem dX8_core_59 : decode cX8_core 59 = .ok (.iinc 2 1, 3) := by decide +kernel
theorem dX8_core_62 : decode cX8_core 62 = .ok (.goto (-39), 3) := by decide +kernel
theorem dX8_core_65 : decode cX8_core 65 = .ok (.iload_n 1, 1) := by decide +kernel
theorem dX8_core_66 : decode cX8_core 66 = .ok (.ireturn, 1) := by decide +kernel
theorem dX8_eliminate_0 : decode cX8_eliminate 0 = .ok (.aload_n 0, 1) := by decide +kernel
theorem dX8_eliminate_1 : decode cX8_eliminate 1 = .ok (.iconst 0, 1) := by decide +kernel
theorem dX8_eliminate_2 : decode cX8_eliminate 2 = .ok (.putfield 203, 3) := by decide +kernel
theorem dX8_eliminate_5 : decode cX8_eliminate 5 = .ok (.aload_n 0, 1) := by decide +kernel
theorem dX8_eliminate_6 : decode cX8_eliminate 6 = .ok (.iconst 1, 1) := by decide +kernel
theorem dX8_eliminate_7 : decode cX8_eliminate 7 = .ok (.putfield 206, 3) := by decide +kernel
theorem dX8_eliminate_10 : decode cX8_eliminate 10 = .ok (.iconst 0, 1) := by decide +kernel
theorem dX8_eliminate_11 : decode cX8_eliminate 11 = .ok (.istore_n 1, 1) := by decide +kernel
theorem dX8_eliminate_12 : decode cX8_eliminate 12 = .ok (.iload_n 1, 1) := by decide +kernel
theorem dX8_eliminate_13 : decode cX8_eliminate 13 = .ok (.aload_n 0, 1) := by decide +kernel
theorem dX8_eliminate_14 : decode cX8_eliminate 14 = .ok (.getfield 7, 3) := by decide +kernel
theorem dX8_eliminate_17 : decode cX8_eliminate 17 = .ok (.iconst 0, 1) := by decide +kernel
theorem dX8_eliminate_18 : decode cX8_eliminate 18 = .ok (.iaload, 1) := by decide +kernel
theorem dX8_eliminate_19 : decode cX8_eliminate 19 = .ok (.if_icmp .ge 232, 3) := by decide +kernel
theorem dX8_eliminate_22 : decode cX8_eliminate 22 = .ok (.aload_n 0, 1) := by decide +kernel
theorem dX8_eliminate_23 : decode cX8_eliminate 23 = .ok (.getfield 7, 3) := by decide +kernel
theorem dX8_eliminate_26 : decode cX8_eliminate 26 = .ok (.iconst 1, 1) := by decide +kernel
theorem dX8_eliminate_27 : decode cX8_eliminate 27 = .ok (.iload_n 1, 1) := by decide +kernel
theorem dX8_eliminate_28 : decode cX8_eliminate 28 = .ok (.iadd, 1) := by decide +kernel
theorem dX8_eliminate_29 : decode cX8_eliminate 29 = .ok (.iaload, 1) := by decide +kernel
theorem dX8_eliminate_30 : decode cX8_eliminate 30 = .ok (.iconst 1, 1) := by decide +kernel
theorem dX8_eliminate_31 : decode cX8_eliminate 31 = .ok (.if_icmp .ne 29, 3) := by decide +kernel
theorem dX8_eliminate_34 : decode cX8_eliminate 34 = .ok (.sipush 256, 3) := by decide +kernel
theorem dX8_eliminate_37 : decode cX8_eliminate 37 = .ok (.aload_n 0, 1) := by decide +kernel
theorem dX8_eliminate_38 : decode cX8_eliminate 38 = .ok (.getfield 7, 3) := by decide +kernel
theorem dX8_eliminate_41 : decode cX8_eliminate 41 = .ok (.bipush 49, 2) := by decide +kernel
theorem dX8_eliminate_43 : decode cX8_eliminate 43 = .ok (.iload_n 1, 1) := by decide +kernel
theorem dX8_eliminate_44 : decode cX8_eliminate 44 = .ok (.iadd, 1) := by decide +kernel
theorem dX8_eliminate_45 : decode cX8_eliminate 45 = .ok (.iaload, 1) := by decide +kernel
theorem dX8_eliminate_46 : decode cX8_eliminate 46 = .ok (.imul, 1) := by decide +kernel
theorem dX8_eliminate_47 : decode cX8_eliminate 47 = .ok (.aload_n 0, 1) := by decide +kernel
theorem dX8_eliminate_48 : decode cX8_eliminate 48 = .ok (.getfield 7, 3) := by decide +kernel
theorem dX8_eliminate_51 : decode cX8_eliminate 51 = .ok (.bipush 25, 2) := by decide +kernel
theorem dX8_eliminate_53 : decode cX8_eliminate 53 = .ok (.iload_n 1, 1) := by decide +kernel
theorem dX8_eliminate_54 : decode cX8_eliminate 54 = .ok (.iadd, 1) := by decide +kernel
theorem dX8_eliminate_55 : decode cX8_eliminate 55 = .ok (.iaload, 1) := by decide +kernel
theorem dX8_eliminate_56 : decode cX8_eliminate 56 = .ok (.iadd, 1) := by decide +kernel
theorem dX8_eliminate_57 : decode cX8_eliminate 57 = .ok (.goto 4, 3) := by decide +kernel
theorem dX8_eliminate_60 : decode cX8_eliminate 60 = .ok (.iconst 0, 1) := by decide +kernel
theorem dX8_eliminate_61 : decode cX8_eliminate 61 = .ok (.istore_n 2, 1) := by decide +kernel
theorem dX8_eliminate_62 : decode cX8_eliminate 62 = .ok (.iconst 0, 1) := by decide +kernel
theorem dX8_eliminate_63 : decode cX8_eliminate 63 = .ok (.istore_n 3, 1) := by decide +kernel
theorem dX8_eliminate_64 : decode cX8_eliminate 64 = .ok (.iload_n 3, 1) := by decide +kernel
theorem dX8_eliminate_65 : decode cX8_eliminate 65 = .ok (.aload_n 0, 1) := by decide +kernel
theorem dX8_eliminate_66 : decode cX8_eliminate 66 = .ok (.getfield 203, 3) := by decide +kernel
theorem dX8_eliminate_69 : decode cX8_eliminate 69 = .ok (.if_icmp .ge 38, 3) := by decide +kernel
theorem dX8_eliminate_72 : decode cX8_eliminate 72 = .ok (.iload_n 2, 1) := by decide +kernel
theorem dX8_eliminate_73 : decode cX8_eliminate 73 = .ok (.iload_n 2, 1) := by decide +kernel
theorem dX8_eliminate_74 : decode cX8_eliminate 74 = .ok (.aload_n 0, 1) := by decide +kernel
theorem dX8_eliminate_75 : decode cX8_eliminate 75 = .ok (.getfield 48, 3) := by decide +kernel
theorem dX8_eliminate_78 : decode cX8_eliminate 78 = .ok (.iload_n 3, 1) := by decide +kernel
theorem dX8_eliminate_79 : decode cX8_eliminate 79 = .ok (.iaload, 1) := by decide +kernel
theorem dX8_eliminate_80 : decode cX8_eliminate 80 = .ok (.invokestatic 85, 3) := by decide +kernel
theorem dX8_eliminate_83 : decode cX8_eliminate 83 = .ok (.invokestatic 54, 3) := by decide +kernel
theorem dX8_eliminate_86 : decode cX8_eliminate 86 = .ok (.ifCond .eq 12, 3) := by decide +kernel
theorem dX8_eliminate_89 : decode cX8_eliminate 89 = .ok (.aload_n 0, 1) := by decide +kernel
theorem dX8_eliminate_90 : decode cX8_eliminate 90 = .ok (.getfield 48, 3) := by decide +kernel
theorem dX8_eliminate_93 : decode cX8_eliminate 93 = .ok (.iload_n 3, 1) := by decide +kernel
theorem dX8_eliminate_94 : decode cX8_eliminate 94 = .ok (.iaload, 1) := by decide +kernel
theorem dX8_eliminate_95 : decode cX8_eliminate 95 = .ok (.goto 4, 3) := by decide +kernel
theorem dX8_eliminate_98 : decode cX8_eliminate 98 = .ok (.iconst 0, 1) := by decide +kernel
theorem dX8_eliminate_99 : decode cX8_eliminate 99 = .ok (.ixor, 1) := by decide +kernel
theorem dX8_eliminate_100 : decode cX8_eliminate 100 = .ok (.istore_n 2, 1) := by decide +kernel
theorem dX8_eliminate_101 : decode cX8_eliminate 101 = .ok (.iinc 3 1, 3) := by decide +kernel
theorem dX8_eliminate_104 : decode cX8_eliminate 104 = .ok (.goto (-40), 3) := by decide +kernel
theorem dX8_eliminate_107 : decode cX8_eliminate 107 = .ok (.iload_n 2, 1) := by decide +kernel
theorem dX8_eliminate_108 : decode cX8_eliminate 108 = .ok (.sipush 256, 3) := by decide +kernel
theorem dX8_eliminate_111 : decode cX8_eliminate 111 = .ok (.if_icmp .ne 11, 3) := by decide +kernel
theorem dX8_eliminate_114 : decode cX8_eliminate 114 = .ok (.aload_n 0, 1) := by decide +kernel
theorem dX8_eliminate_115 : decode cX8_eliminate 115 = .ok (.iconst 0, 1) := by decide +kernel
theorem dX8_eliminate_116 : decode cX8_eliminate 116 = .ok (.putfield 206, 3) := by decide +kernel
theorem dX8_eliminate_119 : decode cX8_eliminate 119 = .ok (.goto 126, 3) := by decide +kernel
theorem dX8_eliminate_122 : decode cX8_eliminate 122 = .ok (.iload_n 2, 1) := by decide +kernel
theorem dX8_eliminate_123 : decode cX8_eliminate 123 = .ok (.ifCond .eq 122, 3) := by decide +kernel
theorem dX8_eliminate_126 : decode cX8_eliminate 126 = .ok (.iload_n 2, 1) := by decide +kernel
theorem dX8_eliminate_127 : decode cX8_eliminate 127 = .ok (.invokestatic 85, 3) := by decide +kernel
theorem dX8_eliminate_130 : decode cX8_eliminate 130 = .ok (.istore_n 3, 1) := by decide +kernel
theorem dX8_eliminate_131 : decode cX8_eliminate 131 = .ok (.iconst 0, 1) := by decide +kernel
theorem dX8_eliminate_132 : decode cX8_eliminate 132 = .ok (.istore 4, 2) := by decide +kernel
theorem dX8_eliminate_134 : decode cX8_eliminate 134 = .ok (.iload 4, 2) := by decide +kernel
theorem dX8_eliminate_136 : decode cX8_eliminate 136 = .ok (.aload_n 0, 1) := by decide +kernel
theorem dX8_eliminate_137 : decode cX8_eliminate 137 = .ok (.getfield 203, 3) := by decide +kernel
theorem dX8_eliminate_140 : decode cX8_eliminate 140 = .ok (.if_icmp .ge 38, 3) := by decide +kernel
theorem dX8_eliminate_143 : decode cX8_eliminate 143 = .ok (.aload_n 0, 1) := by decide +kernel
theorem dX8_eliminate_144 : decode cX8_eliminate 144 = .ok (.getfield 48, 3) := by decide +kernel
theorem dX8_eliminate_147 : decode cX8_eliminate 147 = .ok (.iload 4, 2) := by decide +kernel
theorem dX8_eliminate_149 : decode cX8_eliminate 149 = .ok (.dup2, 1) := by decide +kernel
theorem dX8_eliminate_150 : decode cX8_eliminate 150 = .ok (.iaload, 1) := by decide +kernel
theorem dX8_eliminate_151 : decode cX8_eliminate 151 = .ok (.aload_n 0, 1) := by decide +kernel
theorem dX8_eliminate_152 : decode cX8_eliminate 152 = .ok (.getfield 48, 3) := by decide +kernel
theorem dX8_eliminate_155 : decode cX8_eliminate 155 = .ok (.iload 4, 2) := by decide +kernel
theorem dX8_eliminate_157 : decode cX8_eliminate 157 = .ok (.iaload, 1) := by decide +kernel
theorem dX8_eliminate_158 : decode cX8_eliminate 158 = .ok (.iload_n 3, 1) := by decide +kernel
theorem dX8_eliminate_159 : decode cX8_eliminate 159 = .ok (.invokestatic 54, 3) := by decide +kernel
theorem dX8_eliminate_162 : decode cX8_eliminate 162 = .ok (.ifCond .eq 7, 3) := by decide +kernel
theorem dX8_eliminate_165 : decode cX8_eliminate 165 = .ok (.iload_n 2, 1) := by decide +kernel
theorem dX8_eliminate_166 : decode cX8_eliminate 166 = .ok (.goto 4, 3) := by decide +kernel
theorem dX8_eliminate_169 : decode cX8_eliminate 169 = .ok (.iconst 0, 1) := by decide +kernel
theorem dX8_eliminate_170 : decode cX8_eliminate 170 = .ok (.ixor, 1) := by decide +kernel
theorem dX8_eliminate_171 : decode cX8_eliminate 171 = .ok (.iastore, 1) := by decide +kernel
theorem dX8_eliminate_172 : decode cX8_eliminate 172 = .ok (.iinc 4 1, 3) := by decide +kernel
theorem dX8_eliminate_175 : decode cX8_eliminate 175 = .ok (.goto (-41), 3) := by decide +kernel
theorem dX8_eliminate_178 : decode cX8_eliminate 178 = .ok (.aload_n 0, 1) := by decide +kernel
theorem dX8_eliminate_179 : decode cX8_eliminate 179 = .ok (.getfield 203, 3) := by decide +kernel
theorem dX8_eliminate_182 : decode cX8_eliminate 182 = .ok (.istore 4, 2) := by decide +kernel
theorem dX8_eliminate_184 : decode cX8_eliminate 184 = .ok (.iload 4, 2) := by decide +kernel
theorem dX8_eliminate_186 : decode cX8_eliminate 186 = .ok (.ifCond .le 41, 3) := by decide +kernel
theorem dX8_eliminate_189 : decode cX8_eliminate 189 = .ok (.aload_n 0, 1) := by decide +kernel
theorem dX8_eliminate_190 : decode cX8_eliminate 190 = .ok (.getfield 48, 3) := by decide +kernel
theorem dX8_eliminate_193 : decode cX8_eliminate 193 = .ok (.iload 4, 2) := by decide +kernel
theorem dX8_eliminate_195 : decode cX8_eliminate 195 = .ok (.iconst 1, 1) := by decide +kernel
theorem dX8_eliminate_196 : decode cX8_eliminate 196 = .ok (.isub, 1) := by decide +kernel
theorem dX8_eliminate_197 : decode cX8_eliminate 197 = .ok (.iaload, 1) := by decide +kernel
theorem dX8_eliminate_198 : decode cX8_eliminate 198 = .ok (.invokestatic 85, 3) := by decide +kernel
theorem dX8_eliminate_201 : decode cX8_eliminate 201 = .ok (.iload_n 3, 1) := by decide +kernel
theorem dX8_eliminate_202 : decode cX8_eliminate 202 = .ok (.if_icmp .le 25, 3) := by decide +kernel
theorem dX8_eliminate_205 : decode cX8_eliminate 205 = .ok (.aload_n 0, 1) := by decide +kernel
theorem dX8_eliminate_206 : decode cX8_eliminate 206 = .ok (.getfield 48, 3) := by decide +kernel
theorem dX8_eliminate_209 : decode cX8_eliminate 209 = .ok (.iload 4, 2) := by decide +kernel
theorem dX8_eliminate_211 : decode cX8_eliminate 211 = .ok (.aload_n 0, 1) := by decide +kernel
theorem dX8_eliminate_212 : decode cX8_eliminate 212 = .ok (.getfield 48, 3) := by decide +kernel
theorem dX8_eliminate_215 : decode cX8_eliminate 215 = .ok (.iload 4, 2) := by decide +kernel
theorem dX8_eliminate_217 : decode cX8_eliminate 217 = .ok (.iconst 1, 1) := by decide +kernel
theorem dX8_eliminate_218 : decode cX8_eliminate 218 = .ok (.isub, 1) := by decide +kernel
theorem dX8_eliminate_219 : decode cX8_eliminate 219 = .ok (.iaload, 1) := by decide +kernel
theorem dX8_eliminate_220 : decode cX8_eliminate 220 = .ok (.iastore, 1) := by decide +kernel
theorem dX8_eliminate_221 : decode cX8_eliminate 221 = .ok (.iinc 4 (-1), 3) := by decide +kernel
theorem dX8_eliminate_224 : decode cX8_eliminate 224 = .ok (.goto (-40), 3) := by decide +kernel
theorem dX8_eliminate_227 : decode cX8_eliminate 227 = .ok (.aload_n 0, 1) := by decide +kernel
theorem dX8_eliminate_228 : decode cX8_eliminate 228 = .ok (.getfield 48, 3) := by decide +kernel
theorem dX8_eliminate_231 : decode cX8_eliminate 231 = .ok (.iload 4, 2) := by decide +kernel
theorem dX8_eliminate_233 : decode cX8_eliminate 233 = .ok (.iload_n 2, 1) := by decide +kernel
theorem dX8_eliminate_234 : decode cX8_eliminate 234 = .ok (.iastore, 1) := by decide +kernel
theorem dX8_eliminate_235 : decode cX8_eliminate 235 = .ok (.aload_n 0, 1) := by decide +kernel
theorem dX8_eliminate_236 : decode cX8_eliminate 236 = .ok (.dup, 1) := by decide +kernel
theorem dX8_eliminate_237 : decode cX8_eliminate 237 = .ok (.getfield 203, 3) := by decide +kernel
theorem dX8_eliminate_240 : decode cX8_eliminate 240 = .ok (.iconst 1, 1) := by decide +kernel
theorem dX8_eliminate_241 : decode cX8_eliminate 241 = .ok (.iadd, 1) := by decide +kernel
theorem dX8_eliminate_242 : decode cX8_eliminate 242 = .ok (.putfield 203, 3) := by decide +kernel
theorem dX8_eliminate_245 : decode cX8_eliminate 245 = .ok (.iinc 1 1, 3) := by decide +kernel
theorem dX8_eliminate_248 : decode cX8_eliminate 248 = .ok (.goto (-236), 3) := by decide +kernel
theorem dX8_eliminate_251 : decode cX8_eliminate 251 = .ok (.return_, 1) := by decide +kernel
theorem dX8_rank_0 : decode cX8_rank 0 = .ok (.aload_n 0, 1) := by decide +kernel
theorem dX8_rank_1 : decode cX8_rank 1 = .ok (.iconst 0, 1) := by decide +kernel
theorem dX8_rank_2 : decode cX8_rank 2 = .ok (.putfield 51, 3) := by decide +kernel
theorem dX8_rank_5 : decode cX8_rank 5 = .ok (.aload_n 0, 1) := by decide +kernel
theorem dX8_rank_6 : decode cX8_rank 6 = .ok (.invokevirtual 210, 3) := by decide +kernel
theorem dX8_rank_9 : decode cX8_rank 9 = .ok (.aload_n 0, 1) := by decide +kernel
theorem dX8_rank_10 : decode cX8_rank 10 = .ok (.getfield 203, 3) := by decide +kernel
theorem dX8_rank_13 : decode cX8_rank 13 = .ok (.ireturn, 1) := by decide +kernel
theorem dX8_isConsistent_0 : decode cX8_isConsistent 0 = .ok (.aload_n 0, 1) := by decide +kernel
theorem dX8_isConsistent_1 : decode cX8_isConsistent 1 = .ok (.iconst 0, 1) := by decide +kernel
theorem dX8_isConsistent_2 : decode cX8_isConsistent 2 = .ok (.putfield 51, 3) := by decide +kernel
theorem dX8_isConsistent_5 : decode cX8_isConsistent 5 = .ok (.aload_n 0, 1) := by decide +kernel
theorem dX8_isConsistent_6 : decode cX8_isConsistent 6 = .ok (.invokevirtual 210, 3) := by decide +kernel
theorem dX8_isConsistent_9 : decode cX8_isConsistent 9 = .ok (.aload_n 0, 1) := by decide +kernel
theorem dX8_isConsistent_10 : decode cX8_isConsistent 10 = .ok (.getfield 206, 3) := by decide +kernel
theorem dX8_isConsistent_13 : decode cX8_isConsistent 13 = .ok (.ireturn, 1) := by decide +kernel
theorem dX8_eliminatedRow_0 : decode cX8_eliminatedRow 0 = .ok (.aload_n 0, 1) := by decide +kernel
theorem dX8_eliminatedRow_1 : decode cX8_eliminatedRow 1 = .ok (.invokevirtual 210, 3) := by decide +kernel
theorem dX8_eliminatedRow_4 : decode cX8_eliminatedRow 4 = .ok (.aload_n 0, 1) := by decide +kernel
theorem dX8_eliminatedRow_5 : decode cX8_eliminatedRow 5 = .ok (.aload_n 0, 1) := by decide +kernel
theorem dX8_eliminatedRow_6 : decode cX8_eliminatedRow 6 = .ok (.getfield 206, 3) := by decide +kernel
theorem dX8_eliminatedRow_9 : decode cX8_eliminatedRow 9 = .ok (.ifCond .eq 7, 3) := by decide +kernel
theorem dX8_eliminatedRow_12 : decode cX8_eliminatedRow 12 = .ok (.iconst 0, 1) := by decide +kernel
theorem dX8_eliminatedRow_13 : decode cX8_eliminatedRow 13 = .ok (.goto 4, 3) := by decide +kernel
theorem dX8_eliminatedRow_16 : decode cX8_eliminatedRow 16 = .ok (.iconst 1, 1) := by decide +kernel
theorem dX8_eliminatedRow_17 : decode cX8_eliminatedRow 17 = .ok (.invokevirtual 118, 3) := by decide +kernel
theorem dX8_eliminatedRow_20 : decode cX8_eliminatedRow 20 = .ok (.ifCond .eq 5, 3) := by decide +kernel
theorem dX8_eliminatedRow_23 : decode cX8_eliminatedRow 23 = .ok (.iconst 0, 1) := by decide +kernel
theorem dX8_eliminatedRow_24 : decode cX8_eliminatedRow 24 = .ok (.ireturn, 1) := by decide +kernel
theorem dX8_eliminatedRow_25 : decode cX8_eliminatedRow 25 = .ok (.iload_n 1, 1) := by decide +kernel
theorem dX8_eliminatedRow_26 : decode cX8_eliminatedRow 26 = .ok (.i2l, 1) := by decide +kernel
theorem dX8_eliminatedRow_27 : decode cX8_eliminatedRow 27 = .ok (.lconst 0, 1) := by decide +kernel
theorem dX8_eliminatedRow_28 : decode cX8_eliminatedRow 28 = .ok (.aload_n 0, 1) := by decide +kernel
theorem dX8_eliminatedRow_29 : decode cX8_eliminatedRow 29 = .ok (.getfield 203, 3) := by decide +kernel
theorem dX8_eliminatedRow_32 : decode cX8_eliminatedRow 32 = .ok (.iconst 1, 1) := by decide +kernel
theorem dX8_eliminatedRow_33 : decode cX8_eliminatedRow 33 = .ok (.isub, 1) := by decide +kernel
theorem dX8_eliminatedRow_34 : decode cX8_eliminatedRow 34 = .ok (.i2l, 1) := by decide +kernel
theorem dX8_eliminatedRow_35 : decode cX8_eliminatedRow 35 = .ok (.invokestatic 111, 3) := by decide +kernel
theorem dX8_eliminatedRow_38 : decode cX8_eliminatedRow 38 = .ok (.ifCond .eq 12, 3) := by decide +kernel
theorem dX8_eliminatedRow_41 : decode cX8_eliminatedRow 41 = .ok (.aload_n 0, 1) := by decide +kernel
theorem dX8_eliminatedRow_42 : decode cX8_eliminatedRow 42 = .ok (.getfield 48, 3) := by decide +kernel
theorem dX8_eliminatedRow_45 : decode cX8_eliminatedRow 45 = .ok (.iload_n 1, 1) := by decide +kernel
theorem dX8_eliminatedRow_46 : decode cX8_eliminatedRow 46 = .ok (.iaload, 1) := by decide +kernel
theorem dX8_eliminatedRow_47 : decode cX8_eliminatedRow 47 = .ok (.goto 5, 3) := by decide +kernel
theorem dX8_eliminatedRow_50 : decode cX8_eliminatedRow 50 = .ok (.bipush (-9), 2) := by decide +kernel
theorem dX8_eliminatedRow_52 : decode cX8_eliminatedRow 52 = .ok (.ireturn, 1) := by decide +kernel
theorem dX8_solved_0 : decode cX8_solved 0 = .ok (.aload_n 0, 1) := by decide +kernel
theorem dX8_solved_1 : decode cX8_solved 1 = .ok (.getfield 7, 3) := by decide +kernel
theorem dX8_solved_4 : decode cX8_solved 4 = .ok (.aload_n 0, 1) := by decide +kernel
theorem dX8_solved_5 : decode cX8_solved 5 = .ok (.getfield 13, 3) := by decide +kernel
theorem dX8_solved_8 : decode cX8_solved 8 = .ok (.invokestatic 102, 3) := by decide +kernel
theorem dX8_solved_11 : decode cX8_solved 11 = .ok (.aload_n 0, 1) := by decide +kernel
theorem dX8_solved_12 : decode cX8_solved 12 = .ok (.getfield 13, 3) := by decide +kernel
theorem dX8_solved_15 : decode cX8_solved 15 = .ok (.bipush 73, 2) := by decide +kernel
theorem dX8_solved_17 : decode cX8_solved 17 = .ok (.iconst 0, 1) := by decide +kernel
theorem dX8_solved_18 : decode cX8_solved 18 = .ok (.iastore, 1) := by decide +kernel
theorem dX8_solved_19 : decode cX8_solved 19 = .ok (.iconst 0, 1) := by decide +kernel
theorem dX8_solved_20 : decode cX8_solved 20 = .ok (.istore_n 1, 1) := by decide +kernel
theorem dX8_solved_21 : decode cX8_solved 21 = .ok (.aload_n 0, 1) := by decide +kernel
theorem dX8_solved_22 : decode cX8_solved 22 = .ok (.aload_n 0, 1) := by decide +kernel
theorem dX8_solved_23 : decode cX8_solved 23 = .ok (.getfield 13, 3) := by decide +kernel
theorem dX8_solved_26 : decode cX8_solved 26 = .ok (.invokevirtual 106, 3) := by decide +kernel
theorem dX8_solved_29 : decode cX8_solved 29 = .ok (.aload_n 0, 1) := by decide +kernel
theorem dX8_solved_30 : decode cX8_solved 30 = .ok (.getfield 38, 3) := by decide +kernel
theorem dX8_solved_33 : decode cX8_solved 33 = .ok (.bipush (-9), 2) := by decide +kernel
theorem dX8_solved_35 : decode cX8_solved 35 = .ok (.if_icmp .ne 14, 3) := by decide +kernel
theorem dX8_solved_38 : decode cX8_solved 38 = .ok (.aload_n 0, 1) := by decide +kernel
theorem dX8_solved_39 : decode cX8_solved 39 = .ok (.getfield 68, 3) := by decide +kernel
theorem dX8_solved_42 : decode cX8_solved 42 = .ok (.bipush 8, 2) := by decide +kernel
theorem dX8_solved_44 : decode cX8_solved 44 = .ok (.if_icmp .ne 5, 3) := by decide +kernel
theorem dX8_solved_47 : decode cX8_solved 47 = .ok (.iload_n 1, 1) := by decide +kernel
theorem dX8_solved_48 : decode cX8_solved 48 = .ok (.ireturn, 1) := by decide +kernel
theorem dX8_solved_49 : decode cX8_solved 49 = .ok (.aload_n 0, 1) := by decide +kernel
theorem dX8_solved_50 : decode cX8_solved 50 = .ok (.getfield 38, 3) := by decide +kernel
theorem dX8_solved_53 : decode cX8_solved 53 = .ok (.bipush (-9), 2) := by decide +kernel
theorem dX8_solved_55 : decode cX8_solved 55 = .ok (.if_icmp .ne 43, 3) := by decide +kernel
theorem dX8_solved_58 : decode cX8_solved 58 = .ok (.aload_n 0, 1) := by decide +kernel
theorem dX8_solved_59 : decode cX8_solved 59 = .ok (.getfield 13, 3) := by decide +kernel
theorem dX8_solved_62 : decode cX8_solved 62 = .ok (.bipush 74, 2) := by decide +kernel
theorem dX8_solved_64 : decode cX8_solved 64 = .ok (.aload_n 0, 1) := by decide +kernel
theorem dX8_solved_65 : decode cX8_solved 65 = .ok (.getfield 13, 3) := by decide +kernel
theorem dX8_solved_68 : decode cX8_solved 68 = .ok (.bipush 73, 2) := by decide +kernel
theorem dX8_solved_70 : decode cX8_solved 70 = .ok (.iaload, 1) := by decide +kernel
theorem dX8_solved_71 : decode cX8_solved 71 = .ok (.iadd, 1) := by decide +kernel
theorem dX8_solved_72 : decode cX8_solved 72 = .ok (.iconst 2, 1) := by decide +kernel
theorem dX8_solved_73 : decode cX8_solved 73 = .ok (.aload_n 0, 1) := by decide +kernel
theorem dX8_solved_74 : decode cX8_solved 74 = .ok (.getfield 62, 3) := by decide +kernel
theorem dX8_solved_77 : decode cX8_solved 77 = .ok (.iconst (-1), 1) := by decide +kernel
theorem dX8_solved_78 : decode cX8_solved 78 = .ok (.ixor, 1) := by decide +kernel
theorem dX8_solved_79 : decode cX8_solved 79 = .ok (.invokestatic 85, 3) := by decide +kernel
theorem dX8_solved_82 : decode cX8_solved 82 = .ok (.imul, 1) := by decide +kernel
theorem dX8_solved_83 : decode cX8_solved 83 = .ok (.iastore, 1) := by decide +kernel
theorem dX8_solved_84 : decode cX8_solved 84 = .ok (.aload_n 0, 1) := by decide +kernel
theorem dX8_solved_85 : decode cX8_solved 85 = .ok (.getfield 13, 3) := by decide +kernel
theorem dX8_solved_88 : decode cX8_solved 88 = .ok (.bipush 73, 2) := by decide +kernel
theorem dX8_solved_90 : decode cX8_solved 90 = .ok (.dup2, 1) := by decide +kernel
theorem dX8_solved_91 : decode cX8_solved 91 = .ok (.iaload, 1) := by decide +kernel
theorem dX8_solved_92 : decode cX8_solved 92 = .ok (.iconst 1, 1) := by decide +kernel
theorem dX8_solved_93 : decode cX8_solved 93 = .ok (.iadd, 1) := by decide +kernel
theorem dX8_solved_94 : decode cX8_solved 94 = .ok (.iastore, 1) := by decide +kernel
theorem dX8_solved_95 : decode cX8_solved 95 = .ok (.goto (-74), 3) := by decide +kernel
theorem dX8_solved_98 : decode cX8_solved 98 = .ok (.aload_n 0, 1) := by decide +kernel
theorem dX8_solved_99 : decode cX8_solved 99 = .ok (.getfield 71, 3) := by decide +kernel
theorem dX8_solved_102 : decode cX8_solved 102 = .ok (.ifCond .ne 7, 3) := by decide +kernel
theorem dX8_solved_105 : decode cX8_solved 105 = .ok (.iconst (-1), 1) := by decide +kernel
theorem dX8_solved_106 : decode cX8_solved 106 = .ok (.iload_n 1, 1) := by decide +kernel
theorem dX8_solved_107 : decode cX8_solved 107 = .ok (.isub, 1) := by decide +kernel
theorem dX8_solved_108 : decode cX8_solved 108 = .ok (.ireturn, 1) := by decide +kernel
theorem dX8_solved_109 : decode cX8_solved 109 = .ok (.aload_n 0, 1) := by decide +kernel
theorem dX8_solved_110 : decode cX8_solved 110 = .ok (.getfield 13, 3) := by decide +kernel
theorem dX8_solved_113 : decode cX8_solved 113 = .ok (.iconst 0, 1) := by decide +kernel
theorem dX8_solved_114 : decode cX8_solved 114 = .ok (.iaload, 1) := by decide +kernel
theorem dX8_solved_115 : decode cX8_solved 115 = .ok (.bipush 24, 2) := by decide +kernel
theorem dX8_solved_117 : decode cX8_solved 117 = .ok (.if_icmp .ne 6, 3) := by decide +kernel
theorem dX8_solved_120 : decode cX8_solved 120 = .ok (.bipush (-90), 2) := by decide +kernel
theorem dX8_solved_122 : decode cX8_solved 122 = .ok (.ireturn, 1) := by decide +kernel
theorem dX8_solved_123 : decode cX8_solved 123 = .ok (.aload_n 0, 1) := by decide +kernel
theorem dX8_solved_124 : decode cX8_solved 124 = .ok (.aload_n 0, 1) := by decide +kernel
theorem dX8_solved_125 : decode cX8_solved 125 = .ok (.getfield 13, 3) := by decide +kernel
theorem dX8_solved_128 : decode cX8_solved 128 = .ok (.invokevirtual 186, 3) := by decide +kernel
theorem dX8_solved_131 : decode cX8_solved 131 = .ok (.istore_n 2, 1) := by decide +kernel
theorem dX8_solved_132 : decode cX8_solved 132 = .ok (.aload_n 0, 1) := by decide +kernel
theorem dX8_solved_133 : decode cX8_solved 133 = .ok (.getfield 13, 3) := by decide +kernel
theorem dX8_solved_136 : decode cX8_solved 136 = .ok (.iconst 0, 1) := by decide +kernel
theorem dX8_solved_137 : decode cX8_solved 137 = .ok (.aload_n 0, 1) := by decide +kernel
theorem dX8_solved_138 : decode cX8_solved 138 = .ok (.getfield 177, 3) := by decide +kernel
theorem dX8_solved_141 : decode cX8_solved 141 = .ok (.aload_n 0, 1) := by decide +kernel
theorem dX8_solved_142 : decode cX8_solved 142 = .ok (.getfield 180, 3) := by decide +kernel
theorem dX8_solved_145 : decode cX8_solved 145 = .ok (.invokestatic 133, 3) := by decide +kernel
theorem dX8_solved_148 : decode cX8_solved 148 = .ok (.aload_n 0, 1) := by decide +kernel
theorem dX8_solved_149 : decode cX8_solved 149 = .ok (.getfield 13, 3) := by decide +kernel
theorem dX8_solved_152 : decode cX8_solved 152 = .ok (.bipush 73, 2) := by decide +kernel
theorem dX8_solved_154 : decode cX8_solved 154 = .ok (.iload_n 2, 1) := by decide +kernel
theorem dX8_solved_155 : decode cX8_solved 155 = .ok (.iastore, 1) := by decide +kernel
theorem dX8_solved_156 : decode cX8_solved 156 = .ok (.iinc 1 1, 3) := by decide +kernel
theorem dX8_solved_159 : decode cX8_solved 159 = .ok (.goto (-138), 3) := by decide +kernel
theorem dX8_solve_0 : decode cX8_solve 0 = .ok (.aload_n 0, 1) := by decide +kernel
theorem dX8_solve_1 : decode cX8_solve 1 = .ok (.iconst 0, 1) := by decide +kernel
theorem dX8_solve_2 : decode cX8_solve 2 = .ok (.putfield 51, 3) := by decide +kernel
theorem dX8_solve_5 : decode cX8_solve 5 = .ok (.aload_n 0, 1) := by decide +kernel
theorem dX8_solve_6 : decode cX8_solve 6 = .ok (.invokevirtual 213, 3) := by decide +kernel
theorem dX8_solve_9 : decode cX8_solve 9 = .ok (.istore_n 1, 1) := by decide +kernel
theorem dX8_solve_10 : decode cX8_solve 10 = .ok (.aload_n 0, 1) := by decide +kernel
theorem dX8_solve_11 : decode cX8_solve 11 = .ok (.aload_n 0, 1) := by decide +kernel
theorem dX8_solve_12 : decode cX8_solve 12 = .ok (.getfield 7, 3) := by decide +kernel
theorem dX8_solve_15 : decode cX8_solve 15 = .ok (.invokevirtual 106, 3) := by decide +kernel
theorem dX8_solve_18 : decode cX8_solve 18 = .ok (.iload_n 1, 1) := by decide +kernel
theorem dX8_solve_19 : decode cX8_solve 19 = .ok (.ireturn, 1) := by decide +kernel
theorem dX8_save_0 : decode cX8_save 0 = .ok (.aload_n 0, 1) := by decide +kernel
theorem dX8_save_1 : decode cX8_save 1 = .ok (.iload_n 1, 1) := by decide +kernel
theorem dX8_save_2 : decode cX8_save 2 = .ok (.i2l, 1) := by decide +kernel
theorem dX8_save_3 : decode cX8_save 3 = .ok (.lconst 0, 1) := by decide +kernel
theorem dX8_save_4 : decode cX8_save 4 = .ok (.lconst 1, 1) := by decide +kernel
theorem dX8_save_5 : decode cX8_save 5 = .ok (.invokestatic 111, 3) := by decide +kernel
theorem dX8_save_8 : decode cX8_save 8 = .ok (.ifCond .eq 7, 3) := by decide +kernel
theorem dX8_save_11 : decode cX8_save 11 = .ok (.iconst 0, 1) := by decide +kernel
theorem dX8_save_12 : decode cX8_save 12 = .ok (.goto 4, 3) := by decide +kernel
theorem dX8_save_15 : decode cX8_save 15 = .ok (.iconst 1, 1) := by decide +kernel
theorem dX8_save_16 : decode cX8_save 16 = .ok (.invokevirtual 118, 3) := by decide +kernel
theorem dX8_save_19 : decode cX8_save 19 = .ok (.ifCond .eq 5, 3) := by decide +kernel
theorem dX8_save_22 : decode cX8_save 22 = .ok (.iconst 0, 1) := by decide +kernel
theorem dX8_save_23 : decode cX8_save 23 = .ok (.ireturn, 1) := by decide +kernel
theorem dX8_save_24 : decode cX8_save 24 = .ok (.aload_n 0, 1) := by decide +kernel
theorem dX8_save_25 : decode cX8_save 25 = .ok (.getfield 22, 3) := by decide +kernel
theorem dX8_save_28 : decode cX8_save 28 = .ok (.iload_n 1, 1) := by decide +kernel
theorem dX8_save_29 : decode cX8_save 29 = .ok (.iconst 1, 1) := by decide +kernel
theorem dX8_save_30 : decode cX8_save 30 = .ok (.bastore, 1) := by decide +kernel
theorem dX8_save_31 : decode cX8_save 31 = .ok (.iconst 0, 1) := by decide +kernel
theorem dX8_save_32 : decode cX8_save 32 = .ok (.istore_n 2, 1) := by decide +kernel
theorem dX8_save_33 : decode cX8_save 33 = .ok (.iload_n 2, 1) := by decide +kernel
theorem dX8_save_34 : decode cX8_save 34 = .ok (.bipush 82, 2) := by decide +kernel
theorem dX8_save_36 : decode cX8_save 36 = .ok (.if_icmp .ge 26, 3) := by decide +kernel
theorem dX8_save_39 : decode cX8_save 39 = .ok (.aload_n 0, 1) := by decide +kernel
theorem dX8_save_40 : decode cX8_save 40 = .ok (.getfield 19, 3) := by decide +kernel
theorem dX8_save_43 : decode cX8_save 43 = .ok (.bipush 82, 2) := by decide +kernel
theorem dX8_save_45 : decode cX8_save 45 = .ok (.iload_n 1, 1) := by decide +kernel
theorem dX8_save_46 : decode cX8_save 46 = .ok (.imul, 1) := by decide +kernel
theorem dX8_save_47 : decode cX8_save 47 = .ok (.iload_n 2, 1) := by decide +kernel
theorem dX8_save_48 : decode cX8_save 48 = .ok (.iadd, 1) := by decide +kernel
theorem dX8_save_49 : decode cX8_save 49 = .ok (.aload_n 0, 1) := by decide +kernel
theorem dX8_save_50 : decode cX8_save 50 = .ok (.getfield 7, 3) := by decide +kernel
theorem dX8_save_53 : decode cX8_save 53 = .ok (.iload_n 2, 1) := by decide +kernel
theorem dX8_save_54 : decode cX8_save 54 = .ok (.iaload, 1) := by decide +kernel
theorem dX8_save_55 : decode cX8_save 55 = .ok (.iastore, 1) := by decide +kernel
theorem dX8_save_56 : decode cX8_save 56 = .ok (.iinc 2 1, 3) := by decide +kernel
theorem dX8_save_59 : decode cX8_save 59 = .ok (.goto (-26), 3) := by decide +kernel
theorem dX8_save_62 : decode cX8_save 62 = .ok (.aload_n 0, 1) := by decide +kernel
theorem dX8_save_63 : decode cX8_save 63 = .ok (.getfield 7, 3) := by decide +kernel
theorem dX8_save_66 : decode cX8_save 66 = .ok (.iconst 0, 1) := by decide +kernel
theorem dX8_save_67 : decode cX8_save 67 = .ok (.iaload, 1) := by decide +kernel
theorem dX8_save_68 : decode cX8_save 68 = .ok (.ireturn, 1) := by decide +kernel
theorem dX8_restore_0 : decode cX8_restore 0 = .ok (.aload_n 0, 1) := by decide +kernel
theorem dX8_restore_1 : decode cX8_restore 1 = .ok (.iload_n 1, 1) := by decide +kernel
theorem dX8_restore_2 : decode cX8_restore 2 = .ok (.i2l, 1) := by decide +kernel
theorem dX8_restore_3 : decode cX8_restore 3 = .ok (.lconst 0, 1) := by decide +kernel
theorem dX8_restore_4 : decode cX8_restore 4 = .ok (.lconst 1, 1) := by decide +kernel
theorem dX8_restore_5 : decode cX8_restore 5 = .ok (.invokestatic 111, 3) := by decide +kernel
theorem dX8_restore_8 : decode cX8_restore 8 = .ok (.ifCond .ne 7, 3) := by decide +kernel
theorem dX8_restore_11 : decode cX8_restore 11 = .ok (.iconst 1, 1) := by decide +kernel
theorem dX8_restore_12 : decode cX8_restore 12 = .ok (.goto 17, 3) := by decide +kernel
theorem dX8_restore_15 : decode cX8_restore 15 = .ok (.aload_n 0, 1) := by decide +kernel
theorem dX8_restore_16 : decode cX8_restore 16 = .ok (.getfield 22, 3) := by decide +kernel
theorem dX8_restore_19 : decode cX8_restore 19 = .ok (.iload_n 1, 1) := by decide +kernel
theorem dX8_restore_20 : decode cX8_restore 20 = .ok (.baload, 1) := by decide +kernel
theorem dX8_restore_21 : decode cX8_restore 21 = .ok (.ifCond .ne 7, 3) := by decide +kernel
theorem dX8_restore_24 : decode cX8_restore 24 = .ok (.iconst 2, 1) := by decide +kernel
theorem dX8_restore_25 : decode cX8_restore 25 = .ok (.goto 4, 3) := by decide +kernel
theorem dX8_restore_28 : decode cX8_restore 28 = .ok (.iconst 0, 1) := by decide +kernel
theorem dX8_restore_29 : decode cX8_restore 29 = .ok (.invokevirtual 118, 3) := by decide +kernel
theorem dX8_restore_32 : decode cX8_restore 32 = .ok (.ifCond .eq 5, 3) := by decide +kernel
theorem dX8_restore_35 : decode cX8_restore 35 = .ok (.iconst 0, 1) := by decide +kernel
theorem dX8_restore_36 : decode cX8_restore 36 = .ok (.ireturn, 1) := by decide +kernel
theorem dX8_restore_37 : decode cX8_restore 37 = .ok (.iconst 0, 1) := by decide +kernel
theorem dX8_restore_38 : decode cX8_restore 38 = .ok (.istore_n 2, 1) := by decide +kernel
theorem dX8_restore_39 : decode cX8_restore 39 = .ok (.iload_n 2, 1) := by decide +kernel
theorem dX8_restore_40 : decode cX8_restore 40 = .ok (.bipush 82, 2) := by decide +kernel
theorem dX8_restore_42 : decode cX8_restore 42 = .ok (.if_icmp .ge 26, 3) := by decide +kernel
theorem dX8_restore_45 : decode cX8_restore 45 = .ok (.aload_n 0, 1) := by decide +kernel
theorem dX8_restore_46 : decode cX8_restore 46 = .ok (.getfield 7, 3) := by decide +kernel
theorem dX8_restore_49 : decode cX8_restore 49 = .ok (.iload_n 2, 1) := by decide +kernel
theorem dX8_restore_50 : decode cX8_restore 50 = .ok (.aload_n 0, 1) := by decide +kernel
theorem dX8_restore_51 : decode cX8_restore 51 = .ok (.getfield 19, 3) := by decide +kernel
theorem dX8_restore_54 : decode cX8_restore 54 = .ok (.bipush 82, 2) := by decide +kernel
theorem dX8_restore_56 : decode cX8_restore 56 = .ok (.iload_n 1, 1) := by decide +kernel
theorem dX8_restore_57 : decode cX8_restore 57 = .ok (.imul, 1) := by decide +kernel
theorem dX8_restore_58 : decode cX8_restore 58 = .ok (.iload_n 2, 1) := by decide +kernel
theorem dX8_restore_59 : decode cX8_restore 59 = .ok (.iadd, 1) := by decide +kernel
theorem dX8_restore_60 : decode cX8_restore 60 = .ok (.iaload, 1) := by decide +kernel
theorem dX8_restore_61 : decode cX8_restore 61 = .ok (.iastore, 1) := by decide +kernel
theorem dX8_restore_62 : decode cX8_restore 62 = .ok (.iinc 2 1, 3) := by decide +kernel
theorem dX8_restore_65 : decode cX8_restore 65 = .ok (.goto (-26), 3) := by decide +kernel
theorem dX8_restore_68 : decode cX8_restore 68 = .ok (.aload_n 0, 1) := by decide +kernel
theorem dX8_restore_69 : decode cX8_restore 69 = .ok (.iconst 0, 1) := by decide +kernel
theorem dX8_restore_70 : decode cX8_restore 70 = .ok (.putfield 99, 3) := by decide +kernel
theorem dX8_restore_73 : decode cX8_restore 73 = .ok (.aload_n 0, 1) := by decide +kernel
theorem dX8_restore_74 : decode cX8_restore 74 = .ok (.aload_n 0, 1) := by decide +kernel
theorem dX8_restore_75 : decode cX8_restore 75 = .ok (.getfield 7, 3) := by decide +kernel
theorem dX8_restore_78 : decode cX8_restore 78 = .ok (.invokevirtual 106, 3) := by decide +kernel
theorem dX8_restore_81 : decode cX8_restore 81 = .ok (.aload_n 0, 1) := by decide +kernel
theorem dX8_restore_82 : decode cX8_restore 82 = .ok (.getfield 7, 3) := by decide +kernel
theorem dX8_restore_85 : decode cX8_restore 85 = .ok (.iconst 0, 1) := by decide +kernel
theorem dX8_restore_86 : decode cX8_restore 86 = .ok (.iaload, 1) := by decide +kernel
theorem dX8_restore_87 : decode cX8_restore 87 = .ok (.ireturn, 1) := by decide +kernel
theorem dJ6_bitCount_0f7a4_0 : decode cJ6_bitCount_0f7a4 0 = .ok (.iload_n 0, 1) := by decide +kernel
theorem dJ6_bitCount_0f7a4_1 : decode cJ6_bitCount_0f7a4 1 = .ok (.iload_n 0, 1) := by decide +kernel
theorem dJ6_bitCount_0f7a4_2 : decode cJ6_bitCount_0f7a4 2 = .ok (.iconst 1, 1) := by decide +kernel
theorem dJ6_bitCount_0f7a4_3 : decode cJ6_bitCount_0f7a4 3 = .ok (.iushr, 1) := by decide +kernel
theorem dJ6_bitCount_0f7a4_4 : decode cJ6_bitCount_0f7a4 4 = .ok (.ldc_w 265, 3) := by decide +kernel
theorem dJ6_bitCount_0f7a4_7 : decode cJ6_bitCount_0f7a4 7 = .ok (.iand, 1) := by decide +kernel
theorem dJ6_bitCount_0f7a4_8 : decode cJ6_bitCount_0f7a4 8 = .ok (.isub, 1) := by decide +kernel
theorem dJ6_bitCount_0f7a4_9 : decode cJ6_bitCount_0f7a4 9 = .ok (.istore_n 0, 1) := by decide +kernel
theorem dJ6_bitCount_0f7a4_10 : decode cJ6_bitCount_0f7a4 10 = .ok (.iload_n 0, 1) := by decide +kernel
theorem dJ6_bitCount_0f7a4_11 : decode cJ6_bitCount_0f7a4 11 = .ok (.ldc_w 266, 3) := by decide +kernel
theorem dJ6_bitCount_0f7a4_14 : decode cJ6_bitCount_0f7a4 14 = .ok (.iand, 1) := by decide +kernel
theorem dJ6_bitCount_0f7a4_15 : decode cJ6_bitCount_0f7a4 15 = .ok (.iload_n 0, 1) := by decide +kernel
theorem dJ6_bitCount_0f7a4_16 : decode cJ6_bitCount_0f7a4 16 = .ok (.iconst 2, 1) := by decide +kernel
theorem dJ6_bitCount_0f7a4_17 : decode cJ6_bitCount_0f7a4 17 = .ok (.iushr, 1) := by decide +kernel
theorem dJ6_bitCount_0f7a4_18 : decode cJ6_bitCount_0f7a4 18 = .ok (.ldc_w 266, 3) := by decide +kernel
theorem dJ6_bitCount_0f7a4_21 : decode cJ6_bitCount_0f7a4 21 = .ok (.iand, 1) := by decide +kernel
theorem dJ6_bitCount_0f7a4_22 : decode cJ6_bitCount_0f7a4 22 = .ok (.iadd, 1) := by decide +kernel
theorem dJ6_bitCount_0f7a4_23 : decode cJ6_bitCount_0f7a4 23 = .ok (.istore_n 0, 1) := by decide +kernel
theorem dJ6_bitCount_0f7a4_24 : decode cJ6_bitCount_0f7a4 24 = .ok (.iload_n 0, 1) := by decide +kernel
theorem dJ6_bitCount_0f7a4_25 : decode cJ6_bitCount_0f7a4 25 = .ok (.iload_n 0, 1) := by decide +kernel
theorem dJ6_bitCount_0f7a4_26 : decode cJ6_bitCount_0f7a4 26 = .ok (.iconst 4, 1) := by decide +kernel
theorem dJ6_bitCount_0f7a4_27 : decode cJ6_bitCount_0f7a4 27 = .ok (.iushr, 1) := by decide +kernel
theorem dJ6_bitCount_0f7a4_28 : decode cJ6_bitCount_0f7a4 28 = .ok (.iadd, 1) := by decide +kernel
theorem dJ6_bitCount_0f7a4_29 : decode cJ6_bitCount_0f7a4 29 = .ok (.ldc_w 267, 3) := by decide +kernel
theorem dJ6_bitCount_0f7a4_32 : decode cJ6_bitCount_0f7a4 32 = .ok (.iand, 1) := by decide +kernel
theorem dJ6_bitCount_0f7a4_33 : decode cJ6_bitCount_0f7a4 33 = .ok (.istore_n 0, 1) := by decide +kernel
theorem dJ6_bitCount_0f7a4_34 : decode cJ6_bitCount_0f7a4 34 = .ok (.iload_n 0, 1) := by decide +kernel
theorem dJ6_bitCount_0f7a4_35 : decode cJ6_bitCount_0f7a4 35 = .ok (.iload_n 0, 1) := by decide +kernel
theorem dJ6_bitCount_0f7a4_36 : decode cJ6_bitCount_0f7a4 36 = .ok (.bipush 8, 2) := by decide +kernel
theorem dJ6_bitCount_0f7a4_38 : decode cJ6_bitCount_0f7a4 38 = .ok (.iushr, 1) := by decide +kernel
theorem dJ6_bitCount_0f7a4_39 : decode cJ6_bitCount_0f7a4 39 = .ok (.iadd, 1) := by decide +kernel
theorem dJ6_bitCount_0f7a4_40 : decode cJ6_bitCount_0f7a4 40 = .ok (.istore_n 0, 1) := by decide +kernel
theorem dJ6_bitCount_0f7a4_41 : decode cJ6_bitCount_0f7a4 41 = .ok (.iload_n 0, 1) := by decide +kernel
theorem dJ6_bitCount_0f7a4_42 : decode cJ6_bitCount_0f7a4 42 = .ok (.iload_n 0, 1) := by decide +kernel
theorem dJ6_bitCount_0f7a4_43 : decode cJ6_bitCount_0f7a4 43 = .ok (.bipush 16, 2) := by decide +kernel
theorem dJ6_bitCount_0f7a4_45 : decode cJ6_bitCount_0f7a4 45 = .ok (.iushr, 1) := by decide +kernel
theorem dJ6_bitCount_0f7a4_46 : decode cJ6_bitCount_0f7a4 46 = .ok (.iadd, 1) := by decide +kernel
theorem dJ6_bitCount_0f7a4_47 : decode cJ6_bitCount_0f7a4 47 = .ok (.istore_n 0, 1) := by decide +kernel
theorem dJ6_bitCount_0f7a4_48 : decode cJ6_bitCount_0f7a4 48 = .ok (.iload_n 0, 1) := by decide +kernel
theorem dJ6_bitCount_0f7a4_49 : decode cJ6_bitCount_0f7a4 49 = .ok (.bipush 63, 2) := by decide +kernel
theorem dJ6_bitCount_0f7a4_51 : decode cJ6_bitCount_0f7a4 51 = .ok (.iand, 1) := by decide +kernel
theorem dJ6_bitCount_0f7a4_52 : decode cJ6_bitCount_0f7a4 52 = .ok (.ireturn, 1) := by decide +kernel
theorem dJ9_max_7cf53_0 : decode cJ9_max_7cf53 0 = .ok (.iload_n 0, 1) := by decide +kernel
theorem dJ9_max_7cf53_1 : decode cJ9_max_7cf53 1 = .ok (.iload_n 1, 1) := by decide +kernel
theorem dJ9_max_7cf53_2 : decode cJ9_max_7cf53 2 = .ok (.if_icmp .lt 7, 3) := by decide +kernel
theorem dJ9_max_7cf53_5 : decode cJ9_max_7cf53 5 = .ok (.iload_n 0, 1) := by decide +kernel
theorem dJ9_max_7cf53_6 : decode cJ9_max_7cf53 6 = .ok (.goto 4, 3) := by decide +kernel
theorem dJ9_max_7cf53_9 : decode cJ9_max_7cf53 9 = .ok (.iload_n 1, 1) := by decide +kernel
theorem dJ9_max_7cf53_10 : decode cJ9_max_7cf53 10 = .ok (.ireturn, 1) := by decide +kernel
theorem dJ9_min_7cf53_0 : decode cJ9_min_7cf53 0 = .ok (.iload_n 0, 1) := by decide +kernel
theorem dJ9_min_7cf53_1 : decode cJ9_min_7cf53 1 = .ok (.iload_n 1, 1) := by decide +kernel
theorem dJ9_min_7cf53_2 : decode cJ9_min_7cf53 2 = .ok (.if_icmp .gt 7, 3) := by decide +kernel
theorem dJ9_min_7cf53_5 : decode cJ9_min_7cf53 5 = .ok (.iload_n 0, 1) := by decide +kernel
theorem dJ9_min_7cf53_6 : decode cJ9_min_7cf53 6 = .ok (.goto 4, 3) := by decide +kernel
theorem dJ9_min_7cf53_9 : decode cJ9_min_7cf53 9 = .ok (.iload_n 1, 1) := by decide +kernel
theorem dJ9_min_7cf53_10 : decode cJ9_min_7cf53 10 = .ok (.ireturn, 1) := by decide +kernel
theorem dL_append_0 : decode cL_append 0 = .ok (.aload_n 2, 1) := by decide +kernel
theorem dL_append_1 : decode cL_append 1 = .ok (.iconst 0, 1) := by decide +kernel
theorem dL_append_2 : decode cL_append 2 = .ok (.aload_n 0, 1) := by decide +kernel
theorem dL_append_3 : decode cL_append 3 = .ok (.iload_n 1, 1) := by decide +kernel
theorem dL_append_4 : decode cL_append 4 = .ok (.invokevirtual 7, 3) := by decide +kernel
theorem dL_append_7 : decode cL_append 7 = .ok (.i2l, 1) := by decide +kernel
theorem dL_append_8 : decode cL_append 8 = .ok (.lastore, 1) := by decide +kernel
theorem dL_append_9 : decode cL_append 9 = .ok (.goto 9, 3) := by decide +kernel
theorem dL_append_12 : decode cL_append 12 = .ok (.astore_n 3, 1) := by decide +kernel
theorem dL_append_13 : decode cL_append 13 = .ok (.iconst 1, 1) := by decide +kernel
theorem dL_append_14 : decode cL_append 14 = .ok (.ireturn, 1) := by decide +kernel
theorem dL_append_15 : decode cL_append 15 = .ok (.astore_n 3, 1) := by decide +kernel
theorem dL_append_16 : decode cL_append 16 = .ok (.iconst 2, 1) := by decide +kernel
theorem dL_append_17 : decode cL_append 17 = .ok (.ireturn, 1) := by decide +kernel
theorem dL_append_18 : decode cL_append 18 = .ok (.iconst 0, 1) := by decide +kernel
theorem dL_append_19 : decode cL_append 19 = .ok (.ireturn, 1) := by decide +kernel
theorem dL_load_0 : decode cL_load 0 = .ok (.aload_n 1, 1) := by decide +kernel
theorem dL_load_1 : decode cL_load 1 = .ok (.iconst 0, 1) := by decide +kernel
theorem dL_load_2 : decode cL_load 2 = .ok (.aload_n 0, 1) := by decide +kernel
theorem dL_load_3 : decode cL_load 3 = .ok (.invokevirtual 17, 3) := by decide +kernel
theorem dL_load_6 : decode cL_load 6 = .ok (.i2l, 1) := by decide +kernel
theorem dL_load_7 : decode cL_load 7 = .ok (.lastore, 1) := by decide +kernel
theorem dL_load_8 : decode cL_load 8 = .ok (.goto 6, 3) := by decide +kernel
theorem dL_load_11 : decode cL_load 11 = .ok (.astore_n 2, 1) := by decide +kernel
theorem dL_load_12 : decode cL_load 12 = .ok (.iconst 1, 1) := by decide +kernel
theorem dL_load_13 : decode cL_load 13 = .ok (.ireturn, 1) := by decide +kernel
theorem dL_load_14 : decode cL_load 14 = .ok (.iconst 0, 1) := by decide +kernel
theorem dL_load_15 : decode cL_load 15 = .ok (.ireturn, 1) := by decide +kernel
theorem dL_isParity_0 : decode cL_isParity 0 = .ok (.aload_n 2, 1) := by decide +kernel
theorem dL_isParity_1 : decode cL_isParity 1 = .ok (.iconst 0, 1) := by decide +kernel
theorem dL_isParity_2 : decode cL_isParity 2 = .ok (.aload_n 0, 1) := by decide +kernel
theorem dL_isParity_3 : decode cL_isParity 3 = .ok (.iload_n 1, 1) := by decide +kernel
theorem dL_isParity_4 : decode cL_isParity 4 = .ok (.invokevirtual 21, 3) := by decide +kernel
theorem dL_isParity_7 : decode cL_isParity 7 = .ok (.ifCond .eq 7, 3) := by decide +kernel
theorem dL_isParity_10 : decode cL_isParity 10 = .ok (.lconst 1, 1) := by decide +kernel
theorem dL_isParity_11 : decode cL_isParity 11 = .ok (.goto 4, 3) := by decide +kernel
theorem dL_isParity_14 : decode cL_isParity 14 = .ok (.lconst 0, 1) := by decide +kernel
theorem dL_isParity_15 : decode cL_isParity 15 = .ok (.lastore, 1) := by decide +kernel
theorem dL_isParity_16 : decode cL_isParity 16 = .ok (.goto 6, 3) := by decide +kernel
theorem dL_isParity_19 : decode cL_isParity 19 = .ok (.astore_n 3, 1) := by decide +kernel
theorem dL_isParity_20 : decode cL_isParity 20 = .ok (.iconst 1, 1) := by decide +kernel
theorem dL_isParity_21 : decode cL_isParity 21 = .ok (.ireturn, 1) := by decide +kernel
theorem dL_isParity_22 : decode cL_isParity 22 = .ok (.iconst 0, 1) := by decide +kernel
theorem dL_isParity_23 : decode cL_isParity 23 = .ok (.ireturn, 1) := by decide +kernel
theorem dL_variables_0 : decode cL_variables 0 = .ok (.aload_n 2, 1) := by decide +kernel
theorem dL_variables_1 : decode cL_variables 1 = .ok (.iconst 0, 1) := by decide +kernel
theorem dL_variables_2 : decode cL_variables 2 = .ok (.aload_n 0, 1) := by decide +kernel
theorem dL_variables_3 : decode cL_variables 3 = .ok (.iload_n 1, 1) := by decide +kernel
theorem dL_variables_4 : decode cL_variables 4 = .ok (.invokevirtual 27, 3) := by decide +kernel
theorem dL_variables_7 : decode cL_variables 7 = .ok (.i2l, 1) := by decide +kernel
theorem dL_variables_8 : decode cL_variables 8 = .ok (.lastore, 1) := by decide +kernel
theorem dL_variables_9 : decode cL_variables 9 = .ok (.goto 6, 3) := by decide +kernel
theorem dL_variables_12 : decode cL_variables 12 = .ok (.astore_n 3, 1) := by decide +kernel
theorem dL_variables_13 : decode cL_variables 13 = .ok (.iconst 1, 1) := by decide +kernel
theorem dL_variables_14 : decode cL_variables 14 = .ok (.ireturn, 1) := by decide +kernel
theorem dL_variables_15 : decode cL_variables 15 = .ok (.iconst 0, 1) := by decide +kernel
theorem dL_variables_16 : decode cL_variables 16 = .ok (.ireturn, 1) := by decide +kernel
theorem dL_negated_0 : decode cL_negated 0 = .ok (.aload_n 2, 1) := by decide +kernel
theorem dL_negated_1 : decode cL_negated 1 = .ok (.iconst 0, 1) := by decide +kernel
theorem dL_negated_2 : decode cL_negated 2 = .ok (.aload_n 0, 1) := by decide +kernel
theorem dL_negated_3 : decode cL_negated 3 = .ok (.iload_n 1, 1) := by decide +kernel
theorem dL_negated_4 : decode cL_negated 4 = .ok (.invokevirtual 30, 3) := by decide +kernel
theorem dL_negated_7 : decode cL_negated 7 = .ok (.i2l, 1) := by decide +kernel
theorem dL_negated_8 : decode cL_negated 8 = .ok (.lastore, 1) := by decide +kernel
theorem dL_negated_9 : decode cL_negated 9 = .ok (.goto 6, 3) := by decide +kernel
theorem dL_negated_12 : decode cL_negated 12 = .ok (.astore_n 3, 1) := by decide +kernel
theorem dL_negated_13 : decode cL_negated 13 = .ok (.iconst 1, 1) := by decide +kernel
theorem dL_negated_14 : decode cL_negated 14 = .ok (.ireturn, 1) := by decide +kernel
theorem dL_negated_15 : decode cL_negated 15 = .ok (.iconst 0, 1) := by decide +kernel
theorem dL_negated_16 : decode cL_negated 16 = .ok (.ireturn, 1) := by decide +kernel
theorem dL_addClause_0 : decode cL_addClause 0 = .ok (.aload_n 3, 1) := by decide +kernel
theorem dL_addClause_1 : decode cL_addClause 1 = .ok (.iconst 0, 1) := by decide +kernel
theorem dL_addClause_2 : decode cL_addClause 2 = .ok (.aload_n 0, 1) := by decide +kernel
theorem dL_addClause_3 : decode cL_addClause 3 = .ok (.iload_n 1, 1) := by decide +kernel
theorem dL_addClause_4 : decode cL_addClause 4 = .ok (.iload_n 2, 1) := by decide +kernel
theorem dL_addClause_5 : decode cL_addClause 5 = .ok (.invokevirtual 33, 3) := by decide +kernel
theorem dL_addClause_8 : decode cL_addClause 8 = .ok (.i2l, 1) := by decide +kernel
theorem dL_addClause_9 : decode cL_addClause 9 = .ok (.lastore, 1) := by decide +kernel
theorem dL_addClause_10 : decode cL_addClause 10 = .ok (.goto 11, 3) := by decide +kernel
theorem dL_addClause_13 : decode cL_addClause 13 = .ok (.astore 4, 2) := by decide +kernel
theorem dL_addClause_15 : decode cL_addClause 15 = .ok (.iconst 1, 1) := by decide +kernel
theorem dL_addClause_16 : decode cL_addClause 16 = .ok (.ireturn, 1) := by decide +kernel
theorem dL_addClause_17 : decode cL_addClause 17 = .ok (.astore 4, 2) := by decide +kernel
theorem dL_addClause_19 : decode cL_addClause 19 = .ok (.iconst 2, 1) := by decide +kernel
theorem dL_addClause_20 : decode cL_addClause 20 = .ok (.ireturn, 1) := by decide +kernel
theorem dL_addClause_21 : decode cL_addClause 21 = .ok (.iconst 0, 1) := by decide +kernel
theorem dL_addClause_22 : decode cL_addClause 22 = .ok (.ireturn, 1) := by decide +kernel
theorem dL_addParity_0 : decode cL_addParity 0 = .ok (.aload_n 3, 1) := by decide +kernel
theorem dL_addParity_1 : decode cL_addParity 1 = .ok (.iconst 0, 1) := by decide +kernel
theorem dL_addParity_2 : decode cL_addParity 2 = .ok (.aload_n 0, 1) := by decide +kernel
theorem dL_addParity_3 : decode cL_addParity 3 = .ok (.iload_n 1, 1) := by decide +kernel
theorem dL_addParity_4 : decode cL_addParity 4 = .ok (.iload_n 2, 1) := by decide +kernel
theorem dL_addParity_5 : decode cL_addParity 5 = .ok (.invokevirtual 37, 3) := by decide +kernel
theorem dL_addParity_8 : decode cL_addParity 8 = .ok (.i2l, 1) := by decide +kernel
theorem dL_addParity_9 : decode cL_addParity 9 = .ok (.lastore, 1) := by decide +kernel
theorem dL_addParity_10 : decode cL_addParity 10 = .ok (.goto 11, 3) := by decide +kernel
theorem dL_addParity_13 : decode cL_addParity 13 = .ok (.astore 4, 2) := by decide +kernel
theorem dL_addParity_15 : decode cL_addParity 15 = .ok (.iconst 1, 1) := by decide +kernel
theorem dL_addParity_16 : decode cL_addParity 16 = .ok (.ireturn, 1) := by decide +kernel
theorem dL_addParity_17 : decode cL_addParity 17 = .ok (.astore 4, 2) := by decide +kernel
theorem dL_addParity_19 : decode cL_addParity 19 = .ok (.iconst 2, 1) := by decide +kernel
theorem dL_addParity_20 : decode cL_addParity 20 = .ok (.ireturn, 1) := by decide +kernel
theorem dL_addParity_21 : decode cL_addParity 21 = .ok (.iconst 0, 1) := by decide +kernel
theorem dL_addParity_22 : decode cL_addParity 22 = .ok (.ireturn, 1) := by decide +kernel
theorem dL_removeConstraint_0 : decode cL_removeConstraint 0 = .ok (.aload_n 2, 1) := by decide +kernel
theorem dL_removeConstraint_1 : decode cL_removeConstraint 1 = .ok (.iconst 0, 1) := by decide +kernel
theorem dL_removeConstraint_2 : decode cL_removeConstraint 2 = .ok (.aload_n 0, 1) := by decide +kernel
theorem dL_removeConstraint_3 : decode cL_removeConstraint 3 = .ok (.iload_n 1, 1) := by decide +kernel
theorem dL_removeConstraint_4 : decode cL_removeConstraint 4 = .ok (.invokevirtual 40, 3) := by decide +kernel
theorem dL_removeConstraint_7 : decode cL_removeConstraint 7 = .ok (.i2l, 1) := by decide +kernel
theorem dL_removeConstraint_8 : decode cL_removeConstraint 8 = .ok (.lastore, 1) := by decide +kernel
theorem dL_removeConstraint_9 : decode cL_removeConstraint 9 = .ok (.goto 6, 3) := by decide +kernel
theorem dL_removeConstraint_12 : decode cL_removeConstraint 12 = .ok (.astore_n 3, 1) := by decide +kernel
theorem dL_removeConstraint_13 : decode cL_removeConstraint 13 = .ok (.iconst 1, 1) := by decide +kernel
theorem dL_removeConstraint_14 : decode cL_removeConstraint 14 = .ok (.ireturn, 1) := by decide +kernel
theorem dL_removeConstraint_15 : decode cL_removeConstraint 15 = .ok (.iconst 0, 1) := by decide +kernel
theorem dL_removeConstraint_16 : decode cL_removeConstraint 16 = .ok (.ireturn, 1) := by decide +kernel
theorem dL_resolve_0 : decode cL_resolve 0 = .ok (.aload 4, 2) := by decide +kernel
theorem dL_resolve_2 : decode cL_resolve 2 = .ok (.iconst 0, 1) := by decide +kernel
theorem dL_resolve_3 : decode cL_resolve 3 = .ok (.aload_n 0, 1) := by decide +kernel
theorem dL_resolve_4 : decode cL_resolve 4 = .ok (.iload_n 1, 1) := by decide +kernel
theorem dL_resolve_5 : decode cL_resolve 5 = .ok (.iload_n 2, 1) := by decide +kernel
theorem dL_resolve_6 : decode cL_resolve 6 = .ok (.iload_n 3, 1) := by decide +kernel
theorem dL_resolve_7 : decode cL_resolve 7 = .ok (.invokevirtual 43, 3) := by decide +kernel
theorem dL_resolve_10 : decode cL_resolve 10 = .ok (.i2l, 1) := by decide +kernel
theorem dL_resolve_11 : decode cL_resolve 11 = .ok (.lastore, 1) := by decide +kernel
theorem dL_resolve_12 : decode cL_resolve 12 = .ok (.goto 11, 3) := by decide +kernel
theorem dL_resolve_15 : decode cL_resolve 15 = .ok (.astore 5, 2) := by decide +kernel
theorem dL_resolve_17 : decode cL_resolve 17 = .ok (.iconst 1, 1) := by decide +kernel
theorem dL_resolve_18 : decode cL_resolve 18 = .ok (.ireturn, 1) := by decide +kernel
theorem dL_resolve_19 : decode cL_resolve 19 = .ok (.astore 5, 2) := by decide +kernel
theorem dL_resolve_21 : decode cL_resolve 21 = .ok (.iconst 2, 1) := by decide +kernel
theorem dL_resolve_22 : decode cL_resolve 22 = .ok (.ireturn, 1) := by decide +kernel
theorem dL_resolve_23 : decode cL_resolve 23 = .ok (.iconst 0, 1) := by decide +kernel
theorem dL_resolve_24 : decode cL_resolve 24 = .ok (.ireturn, 1) := by decide +kernel
theorem dL_sum_0 : decode cL_sum 0 = .ok (.aload_n 3, 1) := by decide +kernel
theorem dL_sum_1 : decode cL_sum 1 = .ok (.iconst 0, 1) := by decide +kernel
theorem dL_sum_2 : decode cL_sum 2 = .ok (.aload_n 0, 1) := by decide +kernel
theorem dL_sum_3 : decode cL_sum 3 = .ok (.iload_n 1, 1) := by decide +kernel
theorem dL_sum_4 : decode cL_sum 4 = .ok (.iload_n 2, 1) := by decide +kernel
theorem dL_sum_5 : decode cL_sum 5 = .ok (.invokevirtual 47, 3) := by decide +kernel
theorem dL_sum_8 : decode cL_sum 8 = .ok (.i2l, 1) := by decide +kernel
theorem dL_sum_9 : decode cL_sum 9 = .ok (.lastore, 1) := by decide +kernel
theorem dL_sum_10 : decode cL_sum 10 = .ok (.goto 11, 3) := by decide +kernel
theorem dL_sum_13 : decode cL_sum 13 = .ok (.astore 4, 2) := by decide +kernel
theorem dL_sum_15 : decode cL_sum 15 = .ok (.iconst 1, 1) := by decide +kernel
theorem dL_sum_16 : decode cL_sum 16 = .ok (.ireturn, 1) := by decide +kernel
theorem dL_sum_17 : decode cL_sum 17 = .ok (.astore 4, 2) := by decide +kernel
theorem dL_sum_19 : decode cL_sum 19 = .ok (.iconst 2, 1) := by decide +kernel
theorem dL_sum_20 : decode cL_sum 20 = .ok (.ireturn, 1) := by decide +kernel
theorem dL_sum_21 : decode cL_sum 21 = .ok (.iconst 0, 1) := by decide +kernel
theorem dL_sum_22 : decode cL_sum 22 = .ok (.ireturn, 1) := by decide +kernel
theorem dL_decide_0 : decode cL_decide 0 = .ok (.aload_n 2, 1) := by decide +kernel
theorem dL_decide_1 : decode cL_decide 1 = .ok (.iconst 0, 1) := by decide +kernel
theorem dL_decide_2 : decode cL_decide 2 = .ok (.aload_n 0, 1) := by decide +kernel
theorem dL_decide_3 : decode cL_decide 3 = .ok (.iload_n 1, 1) := by decide +kernel
theorem dL_decide_4 : decode cL_decide 4 = .ok (.invokevirtual 50, 3) := by decide +kernel
theorem dL_decide_7 : decode cL_decide 7 = .ok (.i2l, 1) := by decide +kernel
theorem dL_decide_8 : decode cL_decide 8 = .ok (.lastore, 1) := by decide +kernel
theorem dL_decide_9 : decode cL_decide 9 = .ok (.goto 9, 3) := by decide +kernel
theorem dL_decide_12 : decode cL_decide 12 = .ok (.astore_n 3, 1) := by decide +kernel
theorem dL_decide_13 : decode cL_decide 13 = .ok (.iconst 1, 1) := by decide +kernel
theorem dL_decide_14 : decode cL_decide 14 = .ok (.ireturn, 1) := by decide +kernel
theorem dL_decide_15 : decode cL_decide 15 = .ok (.astore_n 3, 1) := by decide +kernel
theorem dL_decide_16 : decode cL_decide 16 = .ok (.iconst 2, 1) := by decide +kernel
theorem dL_decide_17 : decode cL_decide 17 = .ok (.ireturn, 1) := by decide +kernel
theorem dL_decide_18 : decode cL_decide 18 = .ok (.iconst 0, 1) := by decide +kernel
theorem dL_decide_19 : decode cL_decide 19 = .ok (.ireturn, 1) := by decide +kernel
theorem dL_backtrack_0 : decode cL_backtrack 0 = .ok (.aload_n 2, 1) := by decide +kernel
theorem dL_backtrack_1 : decode cL_backtrack 1 = .ok (.iconst 0, 1) := by decide +kernel
theorem dL_backtrack_2 : decode cL_backtrack 2 = .ok (.aload_n 0, 1) := by decide +kernel
theorem dL_backtrack_3 : decode cL_backtrack 3 = .ok (.iload_n 1, 1) := by decide +kernel
theorem dL_backtrack_4 : decode cL_backtrack 4 = .ok (.invokevirtual 53, 3) := by decide +kernel
theorem dL_backtrack_7 : decode cL_backtrack 7 = .ok (.i2l, 1) := by decide +kernel
theorem dL_backtrack_8 : decode cL_backtrack 8 = .ok (.lastore, 1) := by decide +kernel
theorem dL_backtrack_9 : decode cL_backtrack 9 = .ok (.goto 6, 3) := by decide +kernel
theorem dL_backtrack_12 : decode cL_backtrack 12 = .ok (.astore_n 3, 1) := by decide +kernel
theorem dL_backtrack_13 : decode cL_backtrack 13 = .ok (.iconst 1, 1) := by decide +kernel
theorem dL_backtrack_14 : decode cL_backtrack 14 = .ok (.ireturn, 1) := by decide +kernel
theorem dL_backtrack_15 : decode cL_backtrack 15 = .ok (.iconst 0, 1) := by decide +kernel
theorem dL_backtrack_16 : decode cL_backtrack 16 = .ok (.ireturn, 1) := by decide +kernel
theorem dL_learn_0 : decode cL_learn 0 = .ok (.aload_n 1, 1) := by decide +kernel
theorem dL_learn_1 : decode cL_learn 1 = .ok (.iconst 0, 1) := by decide +kernel
theorem dL_learn_2 : decode cL_learn 2 = .ok (.aload_n 0, 1) := by decide +kernel
theorem dL_learn_3 : decode cL_learn 3 = .ok (.invokevirtual 56, 3) := by decide +kernel
theorem dL_learn_6 : decode cL_learn 6 = .ok (.i2l, 1) := by decide +kernel
theorem dL_learn_7 : decode cL_learn 7 = .ok (.lastore, 1) := by decide +kernel
theorem dL_learn_8 : decode cL_learn 8 = .ok (.goto 6, 3) := by decide +kernel
theorem dL_learn_11 : decode cL_learn 11 = .ok (.astore_n 2, 1) := by decide +kernel
theorem dL_learn_12 : decode cL_learn 12 = .ok (.iconst 1, 1) := by decide +kernel
theorem dL_learn_13 : decode cL_learn 13 = .ok (.ireturn, 1) := by decide +kernel
theorem dL_learn_14 : decode cL_learn 14 = .ok (.iconst 0, 1) := by decide +kernel
theorem dL_learn_15 : decode cL_learn 15 = .ok (.ireturn, 1) := by decide +kernel
theorem dL_undo_0 : decode cL_undo 0 = .ok (.aload_n 1, 1) := by decide +kernel
theorem dL_undo_1 : decode cL_undo 1 = .ok (.iconst 0, 1) := by decide +kernel
theorem dL_undo_2 : decode cL_undo 2 = .ok (.aload_n 0, 1) := by decide +kernel
theorem dL_undo_3 : decode cL_undo 3 = .ok (.invokevirtual 59, 3) := by decide +kernel
theorem dL_undo_6 : decode cL_undo 6 = .ok (.i2l, 1) := by decide +kernel
theorem dL_undo_7 : decode cL_undo 7 = .ok (.lastore, 1) := by decide +kernel
theorem dL_undo_8 : decode cL_undo 8 = .ok (.goto 6, 3) := by decide +kernel
theorem dL_undo_11 : decode cL_undo 11 = .ok (.astore_n 2, 1) := by decide +kernel
theorem dL_undo_12 : decode cL_undo 12 = .ok (.iconst 1, 1) := by decide +kernel
theorem dL_undo_13 : decode cL_undo 13 = .ok (.ireturn, 1) := by decide +kernel
theorem dL_undo_14 : decode cL_undo 14 = .ok (.iconst 0, 1) := by decide +kernel
theorem dL_undo_15 : decode cL_undo 15 = .ok (.ireturn, 1) := by decide +kernel
theorem dL_value_0 : decode cL_value 0 = .ok (.aload_n 2, 1) := by decide +kernel
theorem dL_value_1 : decode cL_value 1 = .ok (.iconst 0, 1) := by decide +kernel
theorem dL_value_2 : decode cL_value 2 = .ok (.aload_n 0, 1) := by decide +kernel
theorem dL_value_3 : decode cL_value 3 = .ok (.iload_n 1, 1) := by decide +kernel
theorem dL_value_4 : decode cL_value 4 = .ok (.invokevirtual 62, 3) := by decide +kernel
theorem dL_value_7 : decode cL_value 7 = .ok (.i2l, 1) := by decide +kernel
theorem dL_value_8 : decode cL_value 8 = .ok (.lastore, 1) := by decide +kernel
theorem dL_value_9 : decode cL_value 9 = .ok (.goto 6, 3) := by decide +kernel
theorem dL_value_12 : decode cL_value 12 = .ok (.astore_n 3, 1) := by decide +kernel
theorem dL_value_13 : decode cL_value 13 = .ok (.iconst 1, 1) := by decide +kernel
theorem dL_value_14 : decode cL_value 14 = .ok (.ireturn, 1) := by decide +kernel
theorem dL_value_15 : decode cL_value 15 = .ok (.iconst 0, 1) := by decide +kernel
theorem dL_value_16 : decode cL_value 16 = .ok (.ireturn, 1) := by decide +kernel
theorem dL_trailLiteral_0 : decode cL_trailLiteral 0 = .ok (.aload_n 2, 1) := by decide +kernel
theorem dL_trailLiteral_1 : decode cL_trailLiteral 1 = .ok (.iconst 0, 1) := by decide +kernel
theorem dL_trailLiteral_2 : decode cL_trailLiteral 2 = .ok (.aload_n 0, 1) := by decide +kernel
theorem dL_trailLiteral_3 : decode cL_trailLiteral 3 = .ok (.iload_n 1, 1) := by decide +kernel
theorem dL_trailLiteral_4 : decode cL_trailLiteral 4 = .ok (.invokevirtual 65, 3) := by decide +kernel
theorem dL_trailLiteral_7 : decode cL_trailLiteral 7 = .ok (.i2l, 1) := by decide +kernel
theorem dL_trailLiteral_8 : decode cL_trailLiteral 8 = .ok (.lastore, 1) := by decide +kernel
theorem dL_trailLiteral_9 : decode cL_trailLiteral 9 = .ok (.goto 6, 3) := by decide +kernel
theorem dL_trailLiteral_12 : decode cL_trailLiteral 12 = .ok (.astore_n 3, 1) := by decide +kernel
theorem dL_trailLiteral_13 : decode cL_trailLiteral 13 = .ok (.iconst 1, 1) := by decide +kernel
theorem dL_trailLiteral_14 : decode cL_trailLiteral 14 = .ok (.ireturn, 1) := by decide +kernel
theorem dL_trailLiteral_15 : decode cL_trailLiteral 15 = .ok (.iconst 0, 1) := by decide +kernel
theorem dL_trailLiteral_16 : decode cL_trailLiteral 16 = .ok (.ireturn, 1) := by decide +kernel
theorem dL_reason_0 : decode cL_reason 0 = .ok (.aload_n 2, 1) := by decide +kernel
theorem dL_reason_1 : decode cL_reason 1 = .ok (.iconst 0, 1) := by decide +kernel
theorem dL_reason_2 : decode cL_reason 2 = .ok (.aload_n 0, 1) := by decide +kernel
theorem dL_reason_3 : decode cL_reason 3 = .ok (.iload_n 1, 1) := by decide +kernel
theorem dL_reason_4 : decode cL_reason 4 = .ok (.invokevirtual 68, 3) := by decide +kernel
theorem dL_reason_7 : decode cL_reason 7 = .ok (.i2l, 1) := by decide +kernel
theorem dL_reason_8 : decode cL_reason 8 = .ok (.lastore, 1) := by decide +kernel
theorem dL_reason_9 : decode cL_reason 9 = .ok (.goto 6, 3) := by decide +kernel
theorem dL_reason_12 : decode cL_reason 12 = .ok (.astore_n 3, 1) := by decide +kernel
theorem dL_reason_13 : decode cL_reason 13 = .ok (.iconst 1, 1) := by decide +kernel
theorem dL_reason_14 : decode cL_reason 14 = .ok (.ireturn, 1) := by decide +kernel
theorem dL_reason_15 : decode cL_reason 15 = .ok (.iconst 0, 1) := by decide +kernel
theorem dL_reason_16 : decode cL_reason 16 = .ok (.ireturn, 1) := by decide +kernel
theorem dL_learnedClause_0 : decode cL_learnedClause 0 = .ok (.aload_n 1, 1) := by decide +kernel
theorem dL_learnedClause_1 : decode cL_learnedClause 1 = .ok (.iconst 0, 1) := by decide +kernel
theorem dL_learnedClause_2 : decode cL_learnedClause 2 = .ok (.aload_n 0, 1) := by decide +kernel
theorem dL_learnedClause_3 : decode cL_learnedClause 3 = .ok (.invokevirtual 71, 3) := by decide +kernel
theorem dL_learnedClause_6 : decode cL_learnedClause 6 = .ok (.i2l, 1) := by decide +kernel
theorem dL_learnedClause_7 : decode cL_learnedClause 7 = .ok (.lastore, 1) := by decide +kernel
theorem dL_learnedClause_8 : decode cL_learnedClause 8 = .ok (.goto 6, 3) := by decide +kernel
theorem dL_learnedClause_11 : decode cL_learnedClause 11 = .ok (.astore_n 2, 1) := by decide +kernel
theorem dL_learnedClause_12 : decode cL_learnedClause 12 = .ok (.iconst 1, 1) := by decide +kernel
theorem dL_learnedClause_13 : decode cL_learnedClause 13 = .ok (.ireturn, 1) := by decide +kernel
theorem dL_learnedClause_14 : decode cL_learnedClause 14 = .ok (.iconst 0, 1) := by decide +kernel
theorem dL_learnedClause_15 : decode cL_learnedClause 15 = .ok (.ireturn, 1) := by decide +kernel
theorem dL_impliesClause_0 : decode cL_impliesClause 0 = .ok (.aload_n 3, 1) := by decide +kernel
theorem dL_impliesClause_1 : decode cL_impliesClause 1 = .ok (.iconst 0, 1) := by decide +kernel
theorem dL_impliesClause_2 : decode cL_impliesClause 2 = .ok (.aload_n 0, 1) := by decide +kernel
theorem dL_impliesClause_3 : decode cL_impliesClause 3 = .ok (.iload_n 1, 1) := by decide +kernel
theorem dL_impliesClause_4 : decode cL_impliesClause 4 = .ok (.iload_n 2, 1) := by decide +kernel
theorem dL_impliesClause_5 : decode cL_impliesClause 5 = .ok (.invokevirtual 74, 3) := by decide +kernel
theorem dL_impliesClause_8 : decode cL_impliesClause 8 = .ok (.ifCond .eq 7, 3) := by decide +kernel
theorem dL_impliesClause_11 : decode cL_impliesClause 11 = .ok (.lconst 1, 1) := by decide +kernel
theorem dL_impliesClause_12 : decode cL_impliesClause 12 = .ok (.goto 4, 3) := by decide +kernel
theorem dL_impliesClause_15 : decode cL_impliesClause 15 = .ok (.lconst 0, 1) := by decide +kernel
theorem dL_impliesClause_16 : decode cL_impliesClause 16 = .ok (.lastore, 1) := by decide +kernel
theorem dL_impliesClause_17 : decode cL_impliesClause 17 = .ok (.goto 7, 3) := by decide +kernel
theorem dL_impliesClause_20 : decode cL_impliesClause 20 = .ok (.astore 4, 2) := by decide +kernel
theorem dL_impliesClause_22 : decode cL_impliesClause 22 = .ok (.iconst 1, 1) := by decide +kernel
theorem dL_impliesClause_23 : decode cL_impliesClause 23 = .ok (.ireturn, 1) := by decide +kernel
theorem dL_impliesClause_24 : decode cL_impliesClause 24 = .ok (.iconst 0, 1) := by decide +kernel
theorem dL_impliesClause_25 : decode cL_impliesClause 25 = .ok (.ireturn, 1) := by decide +kernel
theorem dL_impliesParity_0 : decode cL_impliesParity 0 = .ok (.aload_n 3, 1) := by decide +kernel
theorem dL_impliesParity_1 : decode cL_impliesParity 1 = .ok (.iconst 0, 1) := by decide +kernel
theorem dL_impliesParity_2 : decode cL_impliesParity 2 = .ok (.aload_n 0, 1) := by decide +kernel
theorem dL_impliesParity_3 : decode cL_impliesParity 3 = .ok (.iload_n 1, 1) := by decide +kernel
theorem dL_impliesParity_4 : decode cL_impliesParity 4 = .ok (.iload_n 2, 1) := by decide +kernel
theorem dL_impliesParity_5 : decode cL_impliesParity 5 = .ok (.invokevirtual 78, 3) := by decide +kernel
theorem dL_impliesParity_8 : decode cL_impliesParity 8 = .ok (.ifCond .eq 7, 3) := by decide +kernel
theorem dL_impliesParity_11 : decode cL_impliesParity 11 = .ok (.lconst 1, 1) := by decide +kernel
theorem dL_impliesParity_12 : decode cL_impliesParity 12 = .ok (.goto 4, 3) := by decide +kernel
theorem dL_impliesParity_15 : decode cL_impliesParity 15 = .ok (.lconst 0, 1) := by decide +kernel
theorem dL_impliesParity_16 : decode cL_impliesParity 16 = .ok (.lastore, 1) := by decide +kernel
theorem dL_impliesParity_17 : decode cL_impliesParity 17 = .ok (.goto 7, 3) := by decide +kernel
theorem dL_impliesParity_20 : decode cL_impliesParity 20 = .ok (.astore 4, 2) := by decide +kernel
theorem dL_impliesParity_22 : decode cL_impliesParity 22 = .ok (.iconst 1, 1) := by decide +kernel
theorem dL_impliesParity_23 : decode cL_impliesParity 23 = .ok (.ireturn, 1) := by decide +kernel
theorem dL_impliesParity_24 : decode cL_impliesParity 24 = .ok (.iconst 0, 1) := by decide +kernel
theorem dL_impliesParity_25 : decode cL_impliesParity 25 = .ok (.ireturn, 1) := by decide +kernel
theorem dL_eliminatedRow_0 : decode cL_eliminatedRow 0 = .ok (.aload_n 2, 1) := by decide +kernel
theorem dL_eliminatedRow_1 : decode cL_eliminatedRow 1 = .ok (.iconst 0, 1) := by decide +kernel
theorem dL_eliminatedRow_2 : decode cL_eliminatedRow 2 = .ok (.aload_n 0, 1) := by decide +kernel
theorem dL_eliminatedRow_3 : decode cL_eliminatedRow 3 = .ok (.iload_n 1, 1) := by decide +kernel
theorem dL_eliminatedRow_4 : decode cL_eliminatedRow 4 = .ok (.invokevirtual 81, 3) := by decide +kernel
theorem dL_eliminatedRow_7 : decode cL_eliminatedRow 7 = .ok (.i2l, 1) := by decide +kernel
theorem dL_eliminatedRow_8 : decode cL_eliminatedRow 8 = .ok (.lastore, 1) := by decide +kernel
theorem dL_eliminatedRow_9 : decode cL_eliminatedRow 9 = .ok (.goto 6, 3) := by decide +kernel
theorem dL_eliminatedRow_12 : decode cL_eliminatedRow 12 = .ok (.astore_n 3, 1) := by decide +kernel
theorem dL_eliminatedRow_13 : decode cL_eliminatedRow 13 = .ok (.iconst 1, 1) := by decide +kernel
theorem dL_eliminatedRow_14 : decode cL_eliminatedRow 14 = .ok (.ireturn, 1) := by decide +kernel
theorem dL_eliminatedRow_15 : decode cL_eliminatedRow 15 = .ok (.iconst 0, 1) := by decide +kernel
theorem dL_eliminatedRow_16 : decode cL_eliminatedRow 16 = .ok (.ireturn, 1) := by decide +kernel
theorem dL_save_0 : decode cL_save 0 = .ok (.aload_n 2, 1) := by decide +kernel
theorem dL_save_1 : decode cL_save 1 = .ok (.iconst 0, 1) := by decide +kernel
theorem dL_save_2 : decode cL_save 2 = .ok (.aload_n 0, 1) := by decide +kernel
theorem dL_save_3 : decode cL_save 3 = .ok (.iload_n 1, 1) := by decide +kernel
theorem dL_save_4 : decode cL_save 4 = .ok (.invokevirtual 84, 3) := by decide +kernel
theorem dL_save_7 : decode cL_save 7 = .ok (.i2l, 1) := by decide +kernel
theorem dL_save_8 : decode cL_save 8 = .ok (.lastore, 1) := by decide +kernel
theorem dL_save_9 : decode cL_save 9 = .ok (.goto 6, 3) := by decide +kernel
theorem dL_save_12 : decode cL_save 12 = .ok (.astore_n 3, 1) := by decide +kernel
theorem dL_save_13 : decode cL_save 13 = .ok (.iconst 1, 1) := by decide +kernel
theorem dL_save_14 : decode cL_save 14 = .ok (.ireturn, 1) := by decide +kernel
theorem dL_save_15 : decode cL_save 15 = .ok (.iconst 0, 1) := by decide +kernel
theorem dL_save_16 : decode cL_save 16 = .ok (.ireturn, 1) := by decide +kernel
theorem dL_restore_0 : decode cL_restore 0 = .ok (.aload_n 2, 1) := by decide +kernel
theorem dL_restore_1 : decode cL_restore 1 = .ok (.iconst 0, 1) := by decide +kernel
theorem dL_restore_2 : decode cL_restore 2 = .ok (.aload_n 0, 1) := by decide +kernel
theorem dL_restore_3 : decode cL_restore 3 = .ok (.iload_n 1, 1) := by decide +kernel
theorem dL_restore_4 : decode cL_restore 4 = .ok (.invokevirtual 87, 3) := by decide +kernel
theorem dL_restore_7 : decode cL_restore 7 = .ok (.i2l, 1) := by decide +kernel
theorem dL_restore_8 : decode cL_restore 8 = .ok (.lastore, 1) := by decide +kernel
theorem dL_restore_9 : decode cL_restore 9 = .ok (.goto 9, 3) := by decide +kernel
theorem dL_restore_12 : decode cL_restore 12 = .ok (.astore_n 3, 1) := by decide +kernel
theorem dL_restore_13 : decode cL_restore 13 = .ok (.iconst 1, 1) := by decide +kernel
theorem dL_restore_14 : decode cL_restore 14 = .ok (.ireturn, 1) := by decide +kernel
theorem dL_restore_15 : decode cL_restore 15 = .ok (.astore_n 3, 1) := by decide +kernel
theorem dL_restore_16 : decode cL_restore 16 = .ok (.iconst 2, 1) := by decide +kernel
theorem dL_restore_17 : decode cL_restore 17 = .ok (.ireturn, 1) := by decide +kernel
theorem dL_restore_18 : decode cL_restore 18 = .ok (.iconst 0, 1) := by decide +kernel
theorem dL_restore_19 : decode cL_restore 19 = .ok (.ireturn, 1) := by decide +kernel
theorem dL_law_0 : decode cL_law 0 = .ok (.new 8, 3) := by decide +kernel
theorem dL_law_3 : decode cL_law 3 = .ok (.dup, 1) := by decide +kernel
theorem dL_law_4 : decode cL_law 4 = .ok (.invokespecial 90, 3) := by decide +kernel
theorem dL_law_7 : decode cL_law 7 = .ok (.astore_n 1, 1) := by decide +kernel
theorem dL_law_8 : decode cL_law 8 = .ok (.new 91, 3) := by decide +kernel
theorem dL_law_11 : decode cL_law 11 = .ok (.dup, 1) := by decide +kernel
theorem dL_law_12 : decode cL_law 12 = .ok (.invokespecial 93, 3) := by decide +kernel
theorem dL_law_15 : decode cL_law 15 = .ok (.astore_n 2, 1) := by decide +kernel
theorem dL_law_16 : decode cL_law 16 = .ok (.iconst 1, 1) := by decide +kernel
theorem dL_law_17 : decode cL_law 17 = .ok (.newarray .long, 2) := by decide +kernel
theorem dL_law_19 : decode cL_law 19 = .ok (.astore_n 3, 1) := by decide +kernel
theorem dL_law_20 : decode cL_law 20 = .ok (.iconst 0, 1) := by decide +kernel
theorem dL_law_21 : decode cL_law 21 = .ok (.istore 4, 2) := by decide +kernel
theorem dL_law_23 : decode cL_law 23 = .ok (.iload 4, 2) := by decide +kernel
theorem dL_law_25 : decode cL_law 25 = .ok (.aload_n 0, 1) := by decide +kernel
theorem dL_law_26 : decode cL_law 26 = .ok (.arraylength, 1) := by decide +kernel
theorem dL_law_27 : decode cL_law 27 = .ok (.iconst 4, 1) := by decide +kernel
theorem dL_law_28 : decode cL_law 28 = .ok (.isub, 1) := by decide +kernel
theorem dL_law_29 : decode cL_law 29 = .ok (.if_icmp .gt 1665, 3) := by decide +kernel
theorem dL_law_32 : decode cL_law 32 = .ok (.aload_n 0, 1) := by decide +kernel
theorem dL_law_33 : decode cL_law 33 = .ok (.iload 4, 2) := by decide +kernel
theorem dL_law_35 : decode cL_law 35 = .ok (.iaload, 1) := by decide +kernel
theorem dL_law_36 : decode cL_law 36 = .ok (.bipush 63, 2) := by decide +kernel
theorem dL_law_38 : decode cL_law 38 = .ok (.iand, 1) := by decide +kernel
theorem dL_law_39 : decode cL_law 39 = .ok (.tableswitch 1649 0 33 #[149, 205, 218, 231, 275, 288, 351, 407, 463, 531, 599, 655, 735, 803, 859, 915, 959, 1003, 1016, 1072, 1128, 1184, 1197, 1241, 1254, 1279, 1354, 1429, 1442, 1455, 1468, 1524, 1537, 1593], 149) := by decide +kernel
theorem dL_law_188 : decode cL_law 188 = .ok (.aload_n 1, 1) := by decide +kernel
theorem dL_law_189 : decode cL_law 189 = .ok (.aload_n 0, 1) := by decide +kernel
theorem dL_law_190 : decode cL_law 190 = .ok (.iload 4, 2) := by decide +kernel
theorem dL_law_192 : decode cL_law 192 = .ok (.iconst 1, 1) := by decide +kernel
theorem dL_law_193 : decode cL_law 193 = .ok (.iadd, 1) := by decide +kernel
theorem dL_law_194 : decode cL_law 194 = .ok (.iaload, 1) := by decide +kernel
theorem dL_law_195 : decode cL_law 195 = .ok (.aload_n 3, 1) := by decide +kernel
theorem dL_law_196 : decode cL_law 196 = .ok (.invokestatic 94, 3) := by decide +kernel
theorem dL_law_199 : decode cL_law 199 = .ok (.istore 5, 2) := by decide +kernel
theorem dL_law_201 : decode cL_law 201 = .ok (.aload_n 2, 1) := by decide +kernel
theorem dL_law_202 : decode cL_law 202 = .ok (.aload_n 0, 1) := by decide +kernel
theorem dL_law_203 : decode cL_law 203 = .ok (.iload 4, 2) := by decide +kernel
theorem dL_law_205 : decode cL_law 205 = .ok (.iconst 1, 1) := by decide +kernel
theorem dL_law_206 : decode cL_law 206 = .ok (.iadd, 1) := by decide +kernel
theorem dL_law_207 : decode cL_law 207 = .ok (.iaload, 1) := by decide +kernel
theorem dL_law_208 : decode cL_law 208 = .ok (.invokevirtual 99, 3) := by decide +kernel
theorem dL_law_211 : decode cL_law 211 = .ok (.istore 6, 2) := by decide +kernel
theorem dL_law_213 : decode cL_law 213 = .ok (.aload_n 2, 1) := by decide +kernel
theorem dL_law_214 : decode cL_law 214 = .ok (.invokevirtual 100, 3) := by decide +kernel
theorem dL_law_217 : decode cL_law 217 = .ok (.iload 5, 2) := by decide +kernel
theorem dL_law_219 : decode cL_law 219 = .ok (.if_icmp .eq 5, 3) := by decide +kernel
theorem dL_law_222 : decode cL_law 222 = .ok (.iconst 0, 1) := by decide +kernel
theorem dL_law_223 : decode cL_law 223 = .ok (.ireturn, 1) := by decide +kernel
theorem dL_law_224 : decode cL_law 224 = .ok (.iload 5, 2) := by decide +kernel
theorem dL_law_226 : decode cL_law 226 = .ok (.ifCond .ne 15, 3) := by decide +kernel
theorem dL_law_229 : decode cL_law 229 = .ok (.aload_n 3, 1) := by decide +kernel
theorem dL_law_230 : decode cL_law 230 = .ok (.iconst 0, 1) := by decide +kernel
theorem dL_law_231 : decode cL_law 231 = .ok (.laload, 1) := by decide +kernel
theorem dL_law_232 : decode cL_law 232 = .ok (.iload 6, 2) := by decide +kernel
theorem dL_law_234 : decode cL_law 234 = .ok (.i2l, 1) := by decide +kernel
theorem dL_law_235 : decode cL_law 235 = .ok (.lcmp, 1) := by decide +kernel
theorem dL_law_236 : decode cL_law 236 = .ok (.ifCond .eq 5, 3) := by decide +kernel
theorem dL_law_239 : decode cL_law 239 = .ok (.iconst 0, 1) := by decide +kernel
theorem dL_law_240 : decode cL_law 240 = .ok (.ireturn, 1) := by decide +kernel
theorem dL_law_241 : decode cL_law 241 = .ok (.goto 1447, 3) := by decide +kernel
theorem dL_law_244 : decode cL_law 244 = .ok (.aload_n 1, 1) := by decide +kernel
theorem dL_law_245 : decode cL_law 245 = .ok (.invokevirtual 103, 3) := by decide +kernel
theorem dL_law_248 : decode cL_law 248 = .ok (.aload_n 2, 1) := by decide +kernel
theorem dL_law_249 : decode cL_law 249 = .ok (.invokevirtual 106, 3) := by decide +kernel
theorem dL_law_252 : decode cL_law 252 = .ok (.if_icmp .eq 1436, 3) := by decide +kernel
theorem dL_law_255 : decode cL_law 255 = .ok (.iconst 0, 1) := by decide +kernel
theorem dL_law_256 : decode cL_law 256 = .ok (.ireturn, 1) := by decide +kernel
theorem dL_law_257 : decode cL_law 257 = .ok (.aload_n 1, 1) := by decide +kernel
theorem dL_law_258 : decode cL_law 258 = .ok (.invokevirtual 107, 3) := by decide +kernel
theorem dL_law_261 : decode cL_law 261 = .ok (.aload_n 2, 1) := by decide +kernel
theorem dL_law_262 : decode cL_law 262 = .ok (.invokevirtual 110, 3) := by decide +kernel
theorem dL_law_265 : decode cL_law 265 = .ok (.if_icmp .eq 1423, 3) := by decide +kernel
theorem dL_law_268 : decode cL_law 268 = .ok (.iconst 0, 1) := by decide +kernel
theorem dL_law_269 : decode cL_law 269 = .ok (.ireturn, 1) := by decide +kernel
theorem dL_law_270 : decode cL_law 270 = .ok (.aload_n 1, 1) := by decide +kernel
theorem dL_law_271 : decode cL_law 271 = .ok (.aload_n 3, 1) := by decide +kernel
theorem dL_law_272 : decode cL_law 272 = .ok (.invokestatic 111, 3) := by decide +kernel
theorem dL_law_275 : decode cL_law 275 = .ok (.istore 5, 2) := by decide +kernel
theorem dL_law_277 : decode cL_law 277 = .ok (.aload_n 2, 1) := by decide +kernel
theorem dL_law_278 : decode cL_law 278 = .ok (.invokevirtual 114, 3) := by decide +kernel
theorem dL_law_281 : decode cL_law 281 = .ok (.istore 6, 2) := by decide +kernel
theorem dL_law_283 : decode cL_law 283 = .ok (.aload_n 2, 1) := by decide +kernel
theorem dL_law_284 : decode cL_law 284 = .ok (.invokevirtual 100, 3) := by decide +kernel
theorem dL_law_287 : decode cL_law 287 = .ok (.iload 5, 2) := by decide +kernel
theorem dL_law_289 : decode cL_law 289 = .ok (.if_icmp .eq 5, 3) := by decide +kernel
theorem dL_law_292 : decode cL_law 292 = .ok (.iconst 0, 1) := by decide +kernel
theorem dL_law_293 : decode cL_law 293 = .ok (.ireturn, 1) := by decide +kernel
theorem dL_law_294 : decode cL_law 294 = .ok (.iload 5, 2) := by decide +kernel
theorem dL_law_296 : decode cL_law 296 = .ok (.ifCond .ne 15, 3) := by decide +kernel
theorem dL_law_299 : decode cL_law 299 = .ok (.aload_n 3, 1) := by decide +kernel
theorem dL_law_300 : decode cL_law 300 = .ok (.iconst 0, 1) := by decide +kernel
theorem dL_law_301 : decode cL_law 301 = .ok (.laload, 1) := by decide +kernel
theorem dL_law_302 : decode cL_law 302 = .ok (.iload 6, 2) := by decide +kernel
theorem dL_law_304 : decode cL_law 304 = .ok (.i2l, 1) := by decide +kernel
theorem dL_law_305 : decode cL_law 305 = .ok (.lcmp, 1) := by decide +kernel
theorem dL_law_306 : decode cL_law 306 = .ok (.ifCond .eq 5, 3) := by decide +kernel
theorem dL_law_309 : decode cL_law 309 = .ok (.iconst 0, 1) := by decide +kernel
theorem dL_law_310 : decode cL_law 310 = .ok (.ireturn, 1) := by decide +kernel
theorem dL_law_311 : decode cL_law 311 = .ok (.goto 1377, 3) := by decide +kernel
theorem dL_law_314 : decode cL_law 314 = .ok (.aload_n 1, 1) := by decide +kernel
theorem dL_law_315 : decode cL_law 315 = .ok (.invokevirtual 115, 3) := by decide +kernel
theorem dL_law_318 : decode cL_law 318 = .ok (.aload_n 2, 1) := by decide +kernel
theorem dL_law_319 : decode cL_law 319 = .ok (.invokevirtual 118, 3) := by decide +kernel
theorem dL_law_322 : decode cL_law 322 = .ok (.if_icmp .eq 1366, 3) := by decide +kernel
theorem dL_law_325 : decode cL_law 325 = .ok (.iconst 0, 1) := by decide +kernel
theorem dL_law_326 : decode cL_law 326 = .ok (.ireturn, 1) := by decide +kernel
theorem dL_law_327 : decode cL_law 327 = .ok (.aload_n 1, 1) := by decide +kernel
theorem dL_law_328 : decode cL_law 328 = .ok (.aload_n 0, 1) := by decide +kernel
theorem dL_law_329 : decode cL_law 329 = .ok (.iload 4, 2) := by decide +kernel
theorem dL_law_331 : decode cL_law 331 = .ok (.iconst 1, 1) := by decide +kernel
theorem dL_law_332 : decode cL_law 332 = .ok (.iadd, 1) := by decide +kernel
theorem dL_law_333 : decode cL_law 333 = .ok (.iaload, 1) := by decide +kernel
theorem dL_law_334 : decode cL_law 334 = .ok (.aload_n 3, 1) := by decide +kernel
theorem dL_law_335 : decode cL_law 335 = .ok (.invokestatic 119, 3) := by decide +kernel
theorem dL_law_338 : decode cL_law 338 = .ok (.istore 5, 2) := by decide +kernel
theorem dL_law_340 : decode cL_law 340 = .ok (.aload_n 2, 1) := by decide +kernel
theorem dL_law_341 : decode cL_law 341 = .ok (.aload_n 0, 1) := by decide +kernel
theorem dL_law_342 : decode cL_law 342 = .ok (.iload 4, 2) := by decide +kernel
theorem dL_law_344 : decode cL_law 344 = .ok (.iconst 1, 1) := by decide +kernel
theorem dL_law_345 : decode cL_law 345 = .ok (.iadd, 1) := by decide +kernel
theorem dL_law_346 : decode cL_law 346 = .ok (.iaload, 1) := by decide +kernel
theorem dL_law_347 : decode cL_law 347 = .ok (.invokevirtual 121, 3) := by decide +kernel
theorem dL_law_350 : decode cL_law 350 = .ok (.istore 6, 2) := by decide +kernel
theorem dL_law_352 : decode cL_law 352 = .ok (.aload_n 2, 1) := by decide +kernel
theorem dL_law_353 : decode cL_law 353 = .ok (.invokevirtual 100, 3) := by decide +kernel
theorem dL_law_356 : decode cL_law 356 = .ok (.iload 5, 2) := by decide +kernel
theorem dL_law_358 : decode cL_law 358 = .ok (.if_icmp .eq 5, 3) := by decide +kernel
theorem dL_law_361 : decode cL_law 361 = .ok (.iconst 0, 1) := by decide +kernel
theorem dL_law_362 : decode cL_law 362 = .ok (.ireturn, 1) := by decide +kernel
theorem dL_law_363 : decode cL_law 363 = .ok (.iload 5, 2) := by decide +kernel
theorem dL_law_365 : decode cL_law 365 = .ok (.ifCond .ne 22, 3) := by decide +kernel
theorem dL_law_368 : decode cL_law 368 = .ok (.aload_n 3, 1) := by decide +kernel
theorem dL_law_369 : decode cL_law 369 = .ok (.iconst 0, 1) := by decide +kernel
theorem dL_law_370 : decode cL_law 370 = .ok (.laload, 1) := by decide +kernel
theorem dL_law_371 : decode cL_law 371 = .ok (.iload 6, 2) := by decide +kernel
theorem dL_law_373 : decode cL_law 373 = .ok (.ifCond .eq 7, 3) := by decide +kernel
theorem dL_law_376 : decode cL_law 376 = .ok (.lconst 1, 1) := by decide +kernel
theorem dL_law_377 : decode cL_law 377 = .ok (.goto 4, 3) := by decide +kernel
theorem dL_law_380 : decode cL_law 380 = .ok (.lconst 0, 1) := by decide +kernel
theorem dL_law_381 : decode cL_law 381 = .ok (.lcmp, 1) := by decide +kernel
theorem dL_law_382 : decode cL_law 382 = .ok (.ifCond .eq 5, 3) := by decide +kernel
theorem dL_law_385 : decode cL_law 385 = .ok (.iconst 0, 1) := by decide +kernel
theorem dL_law_386 : decode cL_law 386 = .ok (.ireturn, 1) := by decide +kernel
theorem dL_law_387 : decode cL_law 387 = .ok (.goto 1301, 3) := by decide +kernel
theorem dL_law_390 : decode cL_law 390 = .ok (.aload_n 1, 1) := by decide +kernel
theorem dL_law_391 : decode cL_law 391 = .ok (.aload_n 0, 1) := by decide +kernel
theorem dL_law_392 : decode cL_law 392 = .ok (.iload 4, 2) := by decide +kernel
theorem dL_law_394 : decode cL_law 394 = .ok (.iconst 1, 1) := by decide +kernel
theorem dL_law_395 : decode cL_law 395 = .ok (.iadd, 1) := by decide +kernel
theorem dL_law_396 : decode cL_law 396 = .ok (.iaload, 1) := by decide +kernel
theorem dL_law_397 : decode cL_law 397 = .ok (.aload_n 3, 1) := by decide +kernel
theorem dL_law_398 : decode cL_law 398 = .ok (.invokestatic 122, 3) := by decide +kernel
theorem dL_law_401 : decode cL_law 401 = .ok (.istore 5, 2) := by decide +kernel
theorem dL_law_403 : decode cL_law 403 = .ok (.aload_n 2, 1) := by decide +kernel
theorem dL_law_404 : decode cL_law 404 = .ok (.aload_n 0, 1) := by decide +kernel
theorem dL_law_405 : decode cL_law 405 = .ok (.iload 4, 2) := by decide +kernel
theorem dL_law_407 : decode cL_law 407 = .ok (.iconst 1, 1) := by decide +kernel
theorem dL_law_408 : decode cL_law 408 = .ok (.iadd, 1) := by decide +kernel
theorem dL_law_409 : decode cL_law 409 = .ok (.iaload, 1) := by decide +kernel
theorem dL_law_410 : decode cL_law 410 = .ok (.invokevirtual 124, 3) := by decide +kernel
theorem dL_law_413 : decode cL_law 413 = .ok (.istore 6, 2) := by decide +kernel
theorem dL_law_415 : decode cL_law 415 = .ok (.aload_n 2, 1) := by decide +kernel
theorem dL_law_416 : decode cL_law 416 = .ok (.invokevirtual 100, 3) := by decide +kernel
theorem dL_law_419 : decode cL_law 419 = .ok (.iload 5, 2) := by decide +kernel
theorem dL_law_421 : decode cL_law 421 = .ok (.if_icmp .eq 5, 3) := by decide +kernel
theorem dL_law_424 : decode cL_law 424 = .ok (.iconst 0, 1) := by decide +kernel
theorem dL_law_425 : decode cL_law 425 = .ok (.ireturn, 1) := by decide +kernel
theorem dL_law_426 : decode cL_law 426 = .ok (.iload 5, 2) := by decide +kernel
theorem dL_law_428 : decode cL_law 428 = .ok (.ifCond .ne 15, 3) := by decide +kernel
theorem dL_law_431 : decode cL_law 431 = .ok (.aload_n 3, 1) := by decide +kernel
theorem dL_law_432 : decode cL_law 432 = .ok (.iconst 0, 1) := by decide +kernel
theorem dL_law_433 : decode cL_law 433 = .ok (.laload, 1) := by decide +kernel
theorem dL_law_434 : decode cL_law 434 = .ok (.iload 6, 2) := by decide +kernel
theorem dL_law_436 : decode cL_law 436 = .ok (.i2l, 1) := by decide +kernel
theorem dL_law_437 : decode cL_law 437 = .ok (.lcmp, 1) := by decide +kernel
theorem dL_law_438 : decode cL_law 438 = .ok (.ifCond .eq 5, 3) := by decide +kernel
theorem dL_law_441 : decode cL_law 441 = .ok (.iconst 0, 1) := by decide +kernel
theorem dL_law_442 : decode cL_law 442 = .ok (.ireturn, 1) := by decide +kernel
theorem dL_law_443 : decode cL_law 443 = .ok (.goto 1245, 3) := by decide +kernel
theorem dL_law_446 : decode cL_law 446 = .ok (.aload_n 1, 1) := by decide +kernel
theorem dL_law_447 : decode cL_law 447 = .ok (.aload_n 0, 1) := by decide +kernel
theorem dL_law_448 : decode cL_law 448 = .ok (.iload 4, 2) := by decide +kernel
theorem dL_law_450 : decode cL_law 450 = .ok (.iconst 1, 1) := by decide +kernel
theorem dL_law_451 : decode cL_law 451 = .ok (.iadd, 1) := by decide +kernel
theorem dL_law_452 : decode cL_law 452 = .ok (.iaload, 1) := by decide +kernel
theorem dL_law_453 : decode cL_law 453 = .ok (.aload_n 3, 1) := by decide +kernel
theorem dL_law_454 : decode cL_law 454 = .ok (.invokestatic 125, 3) := by decide +kernel
theorem dL_law_457 : decode cL_law 457 = .ok (.istore 5, 2) := by decide +kernel
theorem dL_law_459 : decode cL_law 459 = .ok (.aload_n 2, 1) := by decide +kernel
theorem dL_law_460 : decode cL_law 460 = .ok (.aload_n 0, 1) := by decide +kernel
theorem dL_law_461 : decode cL_law 461 = .ok (.iload 4, 2) := by decide +kernel
theorem dL_law_463 : decode cL_law 463 = .ok (.iconst 1, 1) := by decide +kernel
theorem dL_law_464 : decode cL_law 464 = .ok (.iadd, 1) := by decide +kernel
theorem dL_law_465 : decode cL_law 465 = .ok (.iaload, 1) := by decide +kernel
theorem dL_law_466 : decode cL_law 466 = .ok (.invokevirtual 127, 3) := by decide +kernel
theorem dL_law_469 : decode cL_law 469 = .ok (.istore 6, 2) := by decide +kernel
theorem dL_law_471 : decode cL_law 471 = .ok (.aload_n 2, 1) := by decide +kernel
theorem dL_law_472 : decode cL_law 472 = .ok (.invokevirtual 100, 3) := by decide +kernel
theorem dL_law_475 : decode cL_law 475 = .ok (.iload 5, 2) := by decide +kernel
theorem dL_law_477 : decode cL_law 477 = .ok (.if_icmp .eq 5, 3) := by decide +kernel
theorem dL_law_480 : decode cL_law 480 = .ok (.iconst 0, 1) := by decide +kernel
theorem dL_law_481 : decode cL_law 481 = .ok (.ireturn, 1) := by decide +kernel
theorem dL_law_482 : decode cL_law 482 = .ok (.iload 5, 2) := by decide +kernel
theorem dL_law_484 : decode cL_law 484 = .ok (.ifCond .ne 15, 3) := by decide +kernel
theorem dL_law_487 : decode cL_law 487 = .ok (.aload_n 3, 1) := by decide +kernel
theorem dL_law_488 : decode cL_law 488 = .ok (.iconst 0, 1) := by decide +kernel
theorem dL_law_489 : decode cL_law 489 = .ok (.laload, 1) := by decide +kernel
theorem dL_law_490 : decode cL_law 490 = .ok (.iload 6, 2) := by decide +kernel
theorem dL_law_492 : decode cL_law 492 = .ok (.i2l, 1) := by decide +kernel
theorem dL_law_493 : decode cL_law 493 = .ok (.lcmp, 1) := by decide +kernel
theorem dL_law_494 : decode cL_law 494 = .ok (.ifCond .eq 5, 3) := by decide +kernel
theorem dL_law_497 : decode cL_law 497 = .ok (.iconst 0, 1) := by decide +kernel
theorem dL_law_498 : decode cL_law 498 = .ok (.ireturn, 1) := by decide +kernel
theorem dL_law_499 : decode cL_law 499 = .ok (.goto 1189, 3) := by decide +kernel
theorem dL_law_502 : decode cL_law 502 = .ok (.aload_n 1, 1) := by decide +kernel
theorem dL_law_503 : decode cL_law 503 = .ok (.aload_n 0, 1) := by decide +kernel
theorem dL_law_504 : decode cL_law 504 = .ok (.iload 4, 2) := by decide +kernel
theorem dL_law_506 : decode cL_law 506 = .ok (.iconst 1, 1) := by decide +kernel
theorem dL_law_507 : decode cL_law 507 = .ok (.iadd, 1) := by decide +kernel
theorem dL_law_508 : decode cL_law 508 = .ok (.iaload, 1) := by decide +kernel
theorem dL_law_509 : decode cL_law 509 = .ok (.aload_n 0, 1) := by decide +kernel
theorem dL_law_510 : decode cL_law 510 = .ok (.iload 4, 2) := by decide +kernel
theorem dL_law_512 : decode cL_law 512 = .ok (.iconst 2, 1) := by decide +kernel
theorem dL_law_513 : decode cL_law 513 = .ok (.iadd, 1) := by decide +kernel
theorem dL_law_514 : decode cL_law 514 = .ok (.iaload, 1) := by decide +kernel
theorem dL_law_515 : decode cL_law 515 = .ok (.aload_n 3, 1) := by decide +kernel
theorem dL_law_516 : decode cL_law 516 = .ok (.invokestatic 128, 3) := by decide +kernel
theorem dL_law_519 : decode cL_law 519 = .ok (.istore 5, 2) := by decide +kernel
theorem dL_law_521 : decode cL_law 521 = .ok (.aload_n 2, 1) := by decide +kernel
theorem dL_law_522 : decode cL_law 522 = .ok (.aload_n 0, 1) := by decide +kernel
theorem dL_law_523 : decode cL_law 523 = .ok (.iload 4, 2) := by decide +kernel
theorem dL_law_525 : decode cL_law 525 = .ok (.iconst 1, 1) := by decide +kernel
theorem dL_law_526 : decode cL_law 526 = .ok (.iadd, 1) := by decide +kernel
theorem dL_law_527 : decode cL_law 527 = .ok (.iaload, 1) := by decide +kernel
theorem dL_law_528 : decode cL_law 528 = .ok (.aload_n 0, 1) := by decide +kernel
theorem dL_law_529 : decode cL_law 529 = .ok (.iload 4, 2) := by decide +kernel
theorem dL_law_531 : decode cL_law 531 = .ok (.iconst 2, 1) := by decide +kernel
theorem dL_law_532 : decode cL_law 532 = .ok (.iadd, 1) := by decide +kernel
theorem dL_law_533 : decode cL_law 533 = .ok (.iaload, 1) := by decide +kernel
theorem dL_law_534 : decode cL_law 534 = .ok (.invokevirtual 131, 3) := by decide +kernel
theorem dL_law_537 : decode cL_law 537 = .ok (.istore 6, 2) := by decide +kernel
theorem dL_law_539 : decode cL_law 539 = .ok (.aload_n 2, 1) := by decide +kernel
theorem dL_law_540 : decode cL_law 540 = .ok (.invokevirtual 100, 3) := by decide +kernel
theorem dL_law_543 : decode cL_law 543 = .ok (.iload 5, 2) := by decide +kernel
theorem dL_law_545 : decode cL_law 545 = .ok (.if_icmp .eq 5, 3) := by decide +kernel
theorem dL_law_548 : decode cL_law 548 = .ok (.iconst 0, 1) := by decide +kernel
theorem dL_law_549 : decode cL_law 549 = .ok (.ireturn, 1) := by decide +kernel
theorem dL_law_550 : decode cL_law 550 = .ok (.iload 5, 2) := by decide +kernel
theorem dL_law_552 : decode cL_law 552 = .ok (.ifCond .ne 15, 3) := by decide +kernel
theorem dL_law_555 : decode cL_law 555 = .ok (.aload_n 3, 1) := by decide +kernel
theorem dL_law_556 : decode cL_law 556 = .ok (.iconst 0, 1) := by decide +kernel
theorem dL_law_557 : decode cL_law 557 = .ok (.laload, 1) := by decide +kernel
theorem dL_law_558 : decode cL_law 558 = .ok (.iload 6, 2) := by decide +kernel
theorem dL_law_560 : decode cL_law 560 = .ok (.i2l, 1) := by decide +kernel
theorem dL_law_561 : decode cL_law 561 = .ok (.lcmp, 1) := by decide +kernel
theorem dL_law_562 : decode cL_law 562 = .ok (.ifCond .eq 5, 3) := by decide +kernel
theorem dL_law_565 : decode cL_law 565 = .ok (.iconst 0, 1) := by decide +kernel
theorem dL_law_566 : decode cL_law 566 = .ok (.ireturn, 1) := by decide +kernel
theorem dL_law_567 : decode cL_law 567 = .ok (.goto 1121, 3) := by decide +kernel
theorem dL_law_570 : decode cL_law 570 = .ok (.aload_n 1, 1) := by decide +kernel
theorem dL_law_571 : decode cL_law 571 = .ok (.aload_n 0, 1) := by decide +kernel
theorem dL_law_572 : decode cL_law 572 = .ok (.iload 4, 2) := by decide +kernel
theorem dL_law_574 : decode cL_law 574 = .ok (.iconst 1, 1) := by decide +kernel
theorem dL_law_575 : decode cL_law 575 = .ok (.iadd, 1) := by decide +kernel
theorem dL_law_576 : decode cL_law 576 = .ok (.iaload, 1) := by decide +kernel
theorem dL_law_577 : decode cL_law 577 = .ok (.aload_n 0, 1) := by decide +kernel
theorem dL_law_578 : decode cL_law 578 = .ok (.iload 4, 2) := by decide +kernel
theorem dL_law_580 : decode cL_law 580 = .ok (.iconst 2, 1) := by decide +kernel
theorem dL_law_581 : decode cL_law 581 = .ok (.iadd, 1) := by decide +kernel
theorem dL_law_582 : decode cL_law 582 = .ok (.iaload, 1) := by decide +kernel
theorem dL_law_583 : decode cL_law 583 = .ok (.aload_n 3, 1) := by decide +kernel
theorem dL_law_584 : decode cL_law 584 = .ok (.invokestatic 132, 3) := by decide +kernel
theorem dL_law_587 : decode cL_law 587 = .ok (.istore 5, 2) := by decide +kernel
theorem dL_law_589 : decode cL_law 589 = .ok (.aload_n 2, 1) := by decide +kernel
theorem dL_law_590 : decode cL_law 590 = .ok (.aload_n 0, 1) := by decide +kernel
theorem dL_law_591 : decode cL_law 591 = .ok (.iload 4, 2) := by decide +kernel
theorem dL_law_593 : decode cL_law 593 = .ok (.iconst 1, 1) := by decide +kernel
theorem dL_law_594 : decode cL_law 594 = .ok (.iadd, 1) := by decide +kernel
theorem dL_law_595 : decode cL_law 595 = .ok (.iaload, 1) := by decide +kernel
theorem dL_law_596 : decode cL_law 596 = .ok (.aload_n 0, 1) := by decide +kernel
theorem dL_law_597 : decode cL_law 597 = .ok (.iload 4, 2) := by decide +kernel
theorem dL_law_599 : decode cL_law 599 = .ok (.iconst 2, 1) := by decide +kernel
theorem dL_law_600 : decode cL_law 600 = .ok (.iadd, 1) := by decide +kernel
theorem dL_law_601 : decode cL_law 601 = .ok (.iaload, 1) := by decide +kernel
theorem dL_law_602 : decode cL_law 602 = .ok (.invokevirtual 134, 3) := by decide +kernel
theorem dL_law_605 : decode cL_law 605 = .ok (.istore 6, 2) := by decide +kernel
theorem dL_law_607 : decode cL_law 607 = .ok (.aload_n 2, 1) := by decide +kernel
theorem dL_law_608 : decode cL_law 608 = .ok (.invokevirtual 100, 3) := by decide +kernel
theorem dL_law_611 : decode cL_law 611 = .ok (.iload 5, 2) := by decide +kernel
theorem dL_law_613 : decode cL_law 613 = .ok (.if_icmp .eq 5, 3) := by decide +kernel
theorem dL_law_616 : decode cL_law 616 = .ok (.iconst 0, 1) := by decide +kernel
theorem dL_law_617 : decode cL_law 617 = .ok (.ireturn, 1) := by decide +kernel
theorem dL_law_618 : decode cL_law 618 = .ok (.iload 5, 2) := by decide +kernel
theorem dL_law_620 : decode cL_law 620 = .ok (.ifCond .ne 15, 3) := by decide +kernel
theorem dL_law_623 : decode cL_law 623 = .ok (.aload_n 3, 1) := by decide +kernel
theorem dL_law_624 : decode cL_law 624 = .ok (.iconst 0, 1) := by decide +kernel
theorem dL_law_625 : decode cL_law 625 = .ok (.laload, 1) := by decide +kernel
theorem dL_law_626 : decode cL_law 626 = .ok (.iload 6, 2) := by decide +kernel
theorem dL_law_628 : decode cL_law 628 = .ok (.i2l, 1) := by decide +kernel
theorem dL_law_629 : decode cL_law 629 = .ok (.lcmp, 1) := by decide +kernel
theorem dL_law_630 : decode cL_law 630 = .ok (.ifCond .eq 5, 3) := by decide +kernel
theorem dL_law_633 : decode cL_law 633 = .ok (.iconst 0, 1) := by decide +kernel
theorem dL_law_634 : decode cL_law 634 = .ok (.ireturn, 1) := by decide +kernel
theorem dL_law_635 : decode cL_law 635 = .ok (.goto 1053, 3) := by decide +kernel
theorem dL_law_638 : decode cL_law 638 = .ok (.aload_n 1, 1) := by decide +kernel
theorem dL_law_639 : decode cL_law 639 = .ok (.aload_n 0, 1) := by decide +kernel
theorem dL_law_640 : decode cL_law 640 = .ok (.iload 4, 2) := by decide +kernel
theorem dL_law_642 : decode cL_law 642 = .ok (.iconst 1, 1) := by decide +kernel
theorem dL_law_643 : decode cL_law 643 = .ok (.iadd, 1) := by decide +kernel
theorem dL_law_644 : decode cL_law 644 = .ok (.iaload, 1) := by decide +kernel
theorem dL_law_645 : decode cL_law 645 = .ok (.aload_n 3, 1) := by decide +kernel
theorem dL_law_646 : decode cL_law 646 = .ok (.invokestatic 135, 3) := by decide +kernel
theorem dL_law_649 : decode cL_law 649 = .ok (.istore 5, 2) := by decide +kernel
theorem dL_law_651 : decode cL_law 651 = .ok (.aload_n 2, 1) := by decide +kernel
theorem dL_law_652 : decode cL_law 652 = .ok (.aload_n 0, 1) := by decide +kernel
theorem dL_law_653 : decode cL_law 653 = .ok (.iload 4, 2) := by decide +kernel
theorem dL_law_655 : decode cL_law 655 = .ok (.iconst 1, 1) := by decide +kernel
theorem dL_law_656 : decode cL_law 656 = .ok (.iadd, 1) := by decide +kernel
theorem dL_law_657 : decode cL_law 657 = .ok (.iaload, 1) := by decide +kernel
theorem dL_law_658 : decode cL_law 658 = .ok (.invokevirtual 137, 3) := by decide +kernel
theorem dL_law_661 : decode cL_law 661 = .ok (.istore 6, 2) := by decide +kernel
theorem dL_law_663 : decode cL_law 663 = .ok (.aload_n 2, 1) := by decide +kernel
theorem dL_law_664 : decode cL_law 664 = .ok (.invokevirtual 100, 3) := by decide +kernel
theorem dL_law_667 : decode cL_law 667 = .ok (.iload 5, 2) := by decide +kernel
theorem dL_law_669 : decode cL_law 669 = .ok (.if_icmp .eq 5, 3) := by decide +kernel
theorem dL_law_672 : decode cL_law 672 = .ok (.iconst 0, 1) := by decide +kernel
theorem dL_law_673 : decode cL_law 673 = .ok (.ireturn, 1) := by decide +kernel
theorem dL_law_674 : decode cL_law 674 = .ok (.iload 5, 2) := by decide +kernel
theorem dL_law_676 : decode cL_law 676 = .ok (.ifCond .ne 15, 3) := by decide +kernel
theorem dL_law_679 : decode cL_law 679 = .ok (.aload_n 3, 1) := by decide +kernel
theorem dL_law_680 : decode cL_law 680 = .ok (.iconst 0, 1) := by decide +kernel
theorem dL_law_681 : decode cL_law 681 = .ok (.laload, 1) := by decide +kernel
theorem dL_law_682 : decode cL_law 682 = .ok (.iload 6, 2) := by decide +kernel
theorem dL_law_684 : decode cL_law 684 = .ok (.i2l, 1) := by decide +kernel
theorem dL_law_685 : decode cL_law 685 = .ok (.lcmp, 1) := by decide +kernel
theorem dL_law_686 : decode cL_law 686 = .ok (.ifCond .eq 5, 3) := by decide +kernel
theorem dL_law_689 : decode cL_law 689 = .ok (.iconst 0, 1) := by decide +kernel
theorem dL_law_690 : decode cL_law 690 = .ok (.ireturn, 1) := by decide +kernel
theorem dL_law_691 : decode cL_law 691 = .ok (.goto 997, 3) := by decide +kernel
theorem dL_law_694 : decode cL_law 694 = .ok (.aload_n 1, 1) := by decide +kernel
theorem dL_law_695 : decode cL_law 695 = .ok (.aload_n 0, 1) := by decide +kernel
theorem dL_law_696 : decode cL_law 696 = .ok (.iload 4, 2) := by decide +kernel
theorem dL_law_698 : decode cL_law 698 = .ok (.iconst 1, 1) := by decide +kernel
theorem dL_law_699 : decode cL_law 699 = .ok (.iadd, 1) := by decide +kernel
theorem dL_law_700 : decode cL_law 700 = .ok (.iaload, 1) := by decide +kernel
theorem dL_law_701 : decode cL_law 701 = .ok (.aload_n 0, 1) := by decide +kernel
theorem dL_law_702 : decode cL_law 702 = .ok (.iload 4, 2) := by decide +kernel
theorem dL_law_704 : decode cL_law 704 = .ok (.iconst 2, 1) := by decide +kernel
theorem dL_law_705 : decode cL_law 705 = .ok (.iadd, 1) := by decide +kernel
theorem dL_law_706 : decode cL_law 706 = .ok (.iaload, 1) := by decide +kernel
theorem dL_law_707 : decode cL_law 707 = .ok (.aload_n 0, 1) := by decide +kernel
theorem dL_law_708 : decode cL_law 708 = .ok (.iload 4, 2) := by decide +kernel
theorem dL_law_710 : decode cL_law 710 = .ok (.iconst 3, 1) := by decide +kernel
theorem dL_law_711 : decode cL_law 711 = .ok (.iadd, 1) := by decide +kernel
theorem dL_law_712 : decode cL_law 712 = .ok (.iaload, 1) := by decide +kernel
theorem dL_law_713 : decode cL_law 713 = .ok (.aload_n 3, 1) := by decide +kernel
theorem dL_law_714 : decode cL_law 714 = .ok (.invokestatic 138, 3) := by decide +kernel
theorem dL_law_717 : decode cL_law 717 = .ok (.istore 5, 2) := by decide +kernel
theorem dL_law_719 : decode cL_law 719 = .ok (.aload_n 2, 1) := by decide +kernel
theorem dL_law_720 : decode cL_law 720 = .ok (.aload_n 0, 1) := by decide +kernel
theorem dL_law_721 : decode cL_law 721 = .ok (.iload 4, 2) := by decide +kernel
theorem dL_law_723 : decode cL_law 723 = .ok (.iconst 1, 1) := by decide +kernel
theorem dL_law_724 : decode cL_law 724 = .ok (.iadd, 1) := by decide +kernel
theorem dL_law_725 : decode cL_law 725 = .ok (.iaload, 1) := by decide +kernel
theorem dL_law_726 : decode cL_law 726 = .ok (.aload_n 0, 1) := by decide +kernel
theorem dL_law_727 : decode cL_law 727 = .ok (.iload 4, 2) := by decide +kernel
theorem dL_law_729 : decode cL_law 729 = .ok (.iconst 2, 1) := by decide +kernel
theorem dL_law_730 : decode cL_law 730 = .ok (.iadd, 1) := by decide +kernel
theorem dL_law_731 : decode cL_law 731 = .ok (.iaload, 1) := by decide +kernel
theorem dL_law_732 : decode cL_law 732 = .ok (.aload_n 0, 1) := by decide +kernel
theorem dL_law_733 : decode cL_law 733 = .ok (.iload 4, 2) := by decide +kernel
theorem dL_law_735 : decode cL_law 735 = .ok (.iconst 3, 1) := by decide +kernel
theorem dL_law_736 : decode cL_law 736 = .ok (.iadd, 1) := by decide +kernel
theorem dL_law_737 : decode cL_law 737 = .ok (.iaload, 1) := by decide +kernel
theorem dL_law_738 : decode cL_law 738 = .ok (.invokevirtual 141, 3) := by decide +kernel
theorem dL_law_741 : decode cL_law 741 = .ok (.istore 6, 2) := by decide +kernel
theorem dL_law_743 : decode cL_law 743 = .ok (.aload_n 2, 1) := by decide +kernel
theorem dL_law_744 : decode cL_law 744 = .ok (.invokevirtual 100, 3) := by decide +kernel
theorem dL_law_747 : decode cL_law 747 = .ok (.iload 5, 2) := by decide +kernel
theorem dL_law_749 : decode cL_law 749 = .ok (.if_icmp .eq 5, 3) := by decide +kernel
theorem dL_law_752 : decode cL_law 752 = .ok (.iconst 0, 1) := by decide +kernel
theorem dL_law_753 : decode cL_law 753 = .ok (.ireturn, 1) := by decide +kernel
theorem dL_law_754 : decode cL_law 754 = .ok (.iload 5, 2) := by decide +kernel
theorem dL_law_756 : decode cL_law 756 = .ok (.ifCond .ne 15, 3) := by decide +kernel
theorem dL_law_759 : decode cL_law 759 = .ok (.aload_n 3, 1) := by decide +kernel
theorem dL_law_760 : decode cL_law 760 = .ok (.iconst 0, 1) := by decide +kernel
theorem dL_law_761 : decode cL_law 761 = .ok (.laload, 1) := by decide +kernel
theorem dL_law_762 : decode cL_law 762 = .ok (.iload 6, 2) := by decide +kernel
theorem dL_law_764 : decode cL_law 764 = .ok (.i2l, 1) := by decide +kernel
theorem dL_law_765 : decode cL_law 765 = .ok (.lcmp, 1) := by decide +kernel
theorem dL_law_766 : decode cL_law 766 = .ok (.ifCond .eq 5, 3) := by decide +kernel
theorem dL_law_769 : decode cL_law 769 = .ok (.iconst 0, 1) := by decide +kernel
theorem dL_law_770 : decode cL_law 770 = .ok (.ireturn, 1) := by decide +kernel
theorem dL_law_771 : decode cL_law 771 = .ok (.goto 917, 3) := by decide +kernel
theorem dL_law_774 : decode cL_law 774 = .ok (.aload_n 1, 1) := by decide +kernel
theorem dL_law_775 : decode cL_law 775 = .ok (.aload_n 0, 1) := by decide +kernel
theorem dL_law_776 : decode cL_law 776 = .ok (.iload 4, 2) := by decide +kernel
theorem dL_law_778 : decode cL_law 778 = .ok (.iconst 1, 1) := by decide +kernel
theorem dL_law_779 : decode cL_law 779 = .ok (.iadd, 1) := by decide +kernel
theorem dL_law_780 : decode cL_law 780 = .ok (.iaload, 1) := by decide +kernel
theorem dL_law_781 : decode cL_law 781 = .ok (.aload_n 0, 1) := by decide +kernel
theorem dL_law_782 : decode cL_law 782 = .ok (.iload 4, 2) := by decide +kernel
theorem dL_law_784 : decode cL_law 784 = .ok (.iconst 2, 1) := by decide +kernel
theorem dL_law_785 : decode cL_law 785 = .ok (.iadd, 1) := by decide +kernel
theorem dL_law_786 : decode cL_law 786 = .ok (.iaload, 1) := by decide +kernel
theorem dL_law_787 : decode cL_law 787 = .ok (.aload_n 3, 1) := by decide +kernel
theorem dL_law_788 : decode cL_law 788 = .ok (.invokestatic 142, 3) := by decide +kernel
theorem dL_law_791 : decode cL_law 791 = .ok (.istore 5, 2) := by decide +kernel
theorem dL_law_793 : decode cL_law 793 = .ok (.aload_n 2, 1) := by decide +kernel
theorem dL_law_794 : decode cL_law 794 = .ok (.aload_n 0, 1) := by decide +kernel
theorem dL_law_795 : decode cL_law 795 = .ok (.iload 4, 2) := by decide +kernel
theorem dL_law_797 : decode cL_law 797 = .ok (.iconst 1, 1) := by decide +kernel
theorem dL_law_798 : decode cL_law 798 = .ok (.iadd, 1) := by decide +kernel
theorem dL_law_799 : decode cL_law 799 = .ok (.iaload, 1) := by decide +kernel
theorem dL_law_800 : decode cL_law 800 = .ok (.aload_n 0, 1) := by decide +kernel
theorem dL_law_801 : decode cL_law 801 = .ok (.iload 4, 2) := by decide +kernel
theorem dL_law_803 : decode cL_law 803 = .ok (.iconst 2, 1) := by decide +kernel
theorem dL_law_804 : decode cL_law 804 = .ok (.iadd, 1) := by decide +kernel
theorem dL_law_805 : decode cL_law 805 = .ok (.iaload, 1) := by decide +kernel
theorem dL_law_806 : decode cL_law 806 = .ok (.invokevirtual 144, 3) := by decide +kernel
theorem dL_law_809 : decode cL_law 809 = .ok (.istore 6, 2) := by decide +kernel
theorem dL_law_811 : decode cL_law 811 = .ok (.aload_n 2, 1) := by decide +kernel
theorem dL_law_812 : decode cL_law 812 = .ok (.invokevirtual 100, 3) := by decide +kernel
theorem dL_law_815 : decode cL_law 815 = .ok (.iload 5, 2) := by decide +kernel
theorem dL_law_817 : decode cL_law 817 = .ok (.if_icmp .eq 5, 3) := by decide +kernel
theorem dL_law_820 : decode cL_law 820 = .ok (.iconst 0, 1) := by decide +kernel
theorem dL_law_821 : decode cL_law 821 = .ok (.ireturn, 1) := by decide +kernel
theorem dL_law_822 : decode cL_law 822 = .ok (.iload 5, 2) := by decide +kernel
theorem dL_law_824 : decode cL_law 824 = .ok (.ifCond .ne 15, 3) := by decide +kernel
theorem dL_law_827 : decode cL_law 827 = .ok (.aload_n 3, 1) := by decide +kernel
theorem dL_law_828 : decode cL_law 828 = .ok (.iconst 0, 1) := by decide +kernel
theorem dL_law_829 : decode cL_law 829 = .ok (.laload, 1) := by decide +kernel
theorem dL_law_830 : decode cL_law 830 = .ok (.iload 6, 2) := by decide +kernel
theorem dL_law_832 : decode cL_law 832 = .ok (.i2l, 1) := by decide +kernel
theorem dL_law_833 : decode cL_law 833 = .ok (.lcmp, 1) := by decide +kernel
theorem dL_law_834 : decode cL_law 834 = .ok (.ifCond .eq 5, 3) := by decide +kernel
theorem dL_law_837 : decode cL_law 837 = .ok (.iconst 0, 1) := by decide +kernel
theorem dL_law_838 : decode cL_law 838 = .ok (.ireturn, 1) := by decide +kernel
theorem dL_law_839 : decode cL_law 839 = .ok (.goto 849, 3) := by decide +kernel
theorem dL_law_842 : decode cL_law 842 = .ok (.aload_n 1, 1) := by decide +kernel
theorem dL_law_843 : decode cL_law 843 = .ok (.aload_n 0, 1) := by decide +kernel
theorem dL_law_844 : decode cL_law 844 = .ok (.iload 4, 2) := by decide +kernel
theorem dL_law_846 : decode cL_law 846 = .ok (.iconst 1, 1) := by decide +kernel
theorem dL_law_847 : decode cL_law 847 = .ok (.iadd, 1) := by decide +kernel
theorem dL_law_848 : decode cL_law 848 = .ok (.iaload, 1) := by decide +kernel
theorem dL_law_849 : decode cL_law 849 = .ok (.aload_n 3, 1) := by decide +kernel
theorem dL_law_850 : decode cL_law 850 = .ok (.invokestatic 145, 3) := by decide +kernel
theorem dL_law_853 : decode cL_law 853 = .ok (.istore 5, 2) := by decide +kernel
theorem dL_law_855 : decode cL_law 855 = .ok (.aload_n 2, 1) := by decide +kernel
theorem dL_law_856 : decode cL_law 856 = .ok (.aload_n 0, 1) := by decide +kernel
theorem dL_law_857 : decode cL_law 857 = .ok (.iload 4, 2) := by decide +kernel
theorem dL_law_859 : decode cL_law 859 = .ok (.iconst 1, 1) := by decide +kernel
theorem dL_law_860 : decode cL_law 860 = .ok (.iadd, 1) := by decide +kernel
theorem dL_law_861 : decode cL_law 861 = .ok (.iaload, 1) := by decide +kernel
theorem dL_law_862 : decode cL_law 862 = .ok (.invokevirtual 147, 3) := by decide +kernel
theorem dL_law_865 : decode cL_law 865 = .ok (.istore 6, 2) := by decide +kernel
theorem dL_law_867 : decode cL_law 867 = .ok (.aload_n 2, 1) := by decide +kernel
theorem dL_law_868 : decode cL_law 868 = .ok (.invokevirtual 100, 3) := by decide +kernel
theorem dL_law_871 : decode cL_law 871 = .ok (.iload 5, 2) := by decide +kernel
theorem dL_law_873 : decode cL_law 873 = .ok (.if_icmp .eq 5, 3) := by decide +kernel
theorem dL_law_876 : decode cL_law 876 = .ok (.iconst 0, 1) := by decide +kernel
theorem dL_law_877 : decode cL_law 877 = .ok (.ireturn, 1) := by decide +kernel
theorem dL_law_878 : decode cL_law 878 = .ok (.iload 5, 2) := by decide +kernel
theorem dL_law_880 : decode cL_law 880 = .ok (.ifCond .ne 15, 3) := by decide +kernel
theorem dL_law_883 : decode cL_law 883 = .ok (.aload_n 3, 1) := by decide +kernel
theorem dL_law_884 : decode cL_law 884 = .ok (.iconst 0, 1) := by decide +kernel
theorem dL_law_885 : decode cL_law 885 = .ok (.laload, 1) := by decide +kernel
theorem dL_law_886 : decode cL_law 886 = .ok (.iload 6, 2) := by decide +kernel
theorem dL_law_888 : decode cL_law 888 = .ok (.i2l, 1) := by decide +kernel
theorem dL_law_889 : decode cL_law 889 = .ok (.lcmp, 1) := by decide +kernel
theorem dL_law_890 : decode cL_law 890 = .ok (.ifCond .eq 5, 3) := by decide +kernel
theorem dL_law_893 : decode cL_law 893 = .ok (.iconst 0, 1) := by decide +kernel
theorem dL_law_894 : decode cL_law 894 = .ok (.ireturn, 1) := by decide +kernel
theorem dL_law_895 : decode cL_law 895 = .ok (.goto 793, 3) := by decide +kernel
theorem dL_law_898 : decode cL_law 898 = .ok (.aload_n 1, 1) := by decide +kernel
theorem dL_law_899 : decode cL_law 899 = .ok (.aload_n 0, 1) := by decide +kernel
theorem dL_law_900 : decode cL_law 900 = .ok (.iload 4, 2) := by decide +kernel
theorem dL_law_902 : decode cL_law 902 = .ok (.iconst 1, 1) := by decide +kernel
theorem dL_law_903 : decode cL_law 903 = .ok (.iadd, 1) := by decide +kernel
theorem dL_law_904 : decode cL_law 904 = .ok (.iaload, 1) := by decide +kernel
theorem dL_law_905 : decode cL_law 905 = .ok (.aload_n 3, 1) := by decide +kernel
theorem dL_law_906 : decode cL_law 906 = .ok (.invokestatic 148, 3) := by decide +kernel
theorem dL_law_909 : decode cL_law 909 = .ok (.istore 5, 2) := by decide +kernel
theorem dL_law_911 : decode cL_law 911 = .ok (.aload_n 2, 1) := by decide +kernel
theorem dL_law_912 : decode cL_law 912 = .ok (.aload_n 0, 1) := by decide +kernel
theorem dL_law_913 : decode cL_law 913 = .ok (.iload 4, 2) := by decide +kernel
theorem dL_law_915 : decode cL_law 915 = .ok (.iconst 1, 1) := by decide +kernel
theorem dL_law_916 : decode cL_law 916 = .ok (.iadd, 1) := by decide +kernel
theorem dL_law_917 : decode cL_law 917 = .ok (.iaload, 1) := by decide +kernel
theorem dL_law_918 : decode cL_law 918 = .ok (.invokevirtual 150, 3) := by decide +kernel
theorem dL_law_921 : decode cL_law 921 = .ok (.istore 6, 2) := by decide +kernel
theorem dL_law_923 : decode cL_law 923 = .ok (.aload_n 2, 1) := by decide +kernel
theorem dL_law_924 : decode cL_law 924 = .ok (.invokevirtual 100, 3) := by decide +kernel
theorem dL_law_927 : decode cL_law 927 = .ok (.iload 5, 2) := by decide +kernel
theorem dL_law_929 : decode cL_law 929 = .ok (.if_icmp .eq 5, 3) := by decide +kernel
theorem dL_law_932 : decode cL_law 932 = .ok (.iconst 0, 1) := by decide +kernel
theorem dL_law_933 : decode cL_law 933 = .ok (.ireturn, 1) := by decide +kernel
theorem dL_law_934 : decode cL_law 934 = .ok (.iload 5, 2) := by decide +kernel
theorem dL_law_936 : decode cL_law 936 = .ok (.ifCond .ne 15, 3) := by decide +kernel
theorem dL_law_939 : decode cL_law 939 = .ok (.aload_n 3, 1) := by decide +kernel
theorem dL_law_940 : decode cL_law 940 = .ok (.iconst 0, 1) := by decide +kernel
theorem dL_law_941 : decode cL_law 941 = .ok (.laload, 1) := by decide +kernel
theorem dL_law_942 : decode cL_law 942 = .ok (.iload 6, 2) := by decide +kernel
theorem dL_law_944 : decode cL_law 944 = .ok (.i2l, 1) := by decide +kernel
theorem dL_law_945 : decode cL_law 945 = .ok (.lcmp, 1) := by decide +kernel
theorem dL_law_946 : decode cL_law 946 = .ok (.ifCond .eq 5, 3) := by decide +kernel
theorem dL_law_949 : decode cL_law 949 = .ok (.iconst 0, 1) := by decide +kernel
theorem dL_law_950 : decode cL_law 950 = .ok (.ireturn, 1) := by decide +kernel
theorem dL_law_951 : decode cL_law 951 = .ok (.goto 737, 3) := by decide +kernel
theorem dL_law_954 : decode cL_law 954 = .ok (.aload_n 1, 1) := by decide +kernel
theorem dL_law_955 : decode cL_law 955 = .ok (.aload_n 3, 1) := by decide +kernel
theorem dL_law_956 : decode cL_law 956 = .ok (.invokestatic 151, 3) := by decide +kernel
theorem dL_law_959 : decode cL_law 959 = .ok (.istore 5, 2) := by decide +kernel
theorem dL_law_961 : decode cL_law 961 = .ok (.aload_n 2, 1) := by decide +kernel
theorem dL_law_962 : decode cL_law 962 = .ok (.invokevirtual 153, 3) := by decide +kernel
theorem dL_law_965 : decode cL_law 965 = .ok (.istore 6, 2) := by decide +kernel
theorem dL_law_967 : decode cL_law 967 = .ok (.aload_n 2, 1) := by decide +kernel
theorem dL_law_968 : decode cL_law 968 = .ok (.invokevirtual 100, 3) := by decide +kernel
theorem dL_law_971 : decode cL_law 971 = .ok (.iload 5, 2) := by decide +kernel
theorem dL_law_973 : decode cL_law 973 = .ok (.if_icmp .eq 5, 3) := by decide +kernel
theorem dL_law_976 : decode cL_law 976 = .ok (.iconst 0, 1) := by decide +kernel
theorem dL_law_977 : decode cL_law 977 = .ok (.ireturn, 1) := by decide +kernel
theorem dL_law_978 : decode cL_law 978 = .ok (.iload 5, 2) := by decide +kernel
theorem dL_law_980 : decode cL_law 980 = .ok (.ifCond .ne 15, 3) := by decide +kernel
theorem dL_law_983 : decode cL_law 983 = .ok (.aload_n 3, 1) := by decide +kernel
theorem dL_law_984 : decode cL_law 984 = .ok (.iconst 0, 1) := by decide +kernel
theorem dL_law_985 : decode cL_law 985 = .ok (.laload, 1) := by decide +kernel
theorem dL_law_986 : decode cL_law 986 = .ok (.iload 6, 2) := by decide +kernel
theorem dL_law_988 : decode cL_law 988 = .ok (.i2l, 1) := by decide +kernel
theorem dL_law_989 : decode cL_law 989 = .ok (.lcmp, 1) := by decide +kernel
theorem dL_law_990 : decode cL_law 990 = .ok (.ifCond .eq 5, 3) := by decide +kernel
theorem dL_law_993 : decode cL_law 993 = .ok (.iconst 0, 1) := by decide +kernel
theorem dL_law_994 : decode cL_law 994 = .ok (.ireturn, 1) := by decide +kernel
theorem dL_law_995 : decode cL_law 995 = .ok (.goto 693, 3) := by decide +kernel
theorem dL_law_998 : decode cL_law 998 = .ok (.aload_n 1, 1) := by decide +kernel
theorem dL_law_999 : decode cL_law 999 = .ok (.aload_n 3, 1) := by decide +kernel
theorem dL_law_1000 : decode cL_law 1000 = .ok (.invokestatic 154, 3) := by decide +kernel
theorem dL_law_1003 : decode cL_law 1003 = .ok (.istore 5, 2) := by decide +kernel
theorem dL_law_1005 : decode cL_law 1005 = .ok (.aload_n 2, 1) := by decide +kernel
theorem dL_law_1006 : decode cL_law 1006 = .ok (.invokevirtual 156, 3) := by decide +kernel
theorem dL_law_1009 : decode cL_law 1009 = .ok (.istore 6, 2) := by decide +kernel
theorem dL_law_1011 : decode cL_law 1011 = .ok (.aload_n 2, 1) := by decide +kernel
theorem dL_law_1012 : decode cL_law 1012 = .ok (.invokevirtual 100, 3) := by decide +kernel
theorem dL_law_1015 : decode cL_law 1015 = .ok (.iload 5, 2) := by decide +kernel
theorem dL_law_1017 : decode cL_law 1017 = .ok (.if_icmp .eq 5, 3) := by decide +kernel
theorem dL_law_1020 : decode cL_law 1020 = .ok (.iconst 0, 1) := by decide +kernel
theorem dL_law_1021 : decode cL_law 1021 = .ok (.ireturn, 1) := by decide +kernel
theorem dL_law_1022 : decode cL_law 1022 = .ok (.iload 5, 2) := by decide +kernel
theorem dL_law_1024 : decode cL_law 1024 = .ok (.ifCond .ne 15, 3) := by decide +kernel
theorem dL_law_1027 : decode cL_law 1027 = .ok (.aload_n 3, 1) := by decide +kernel
theorem dL_law_1028 : decode cL_law 1028 = .ok (.iconst 0, 1) := by decide +kernel
theorem dL_law_1029 : decode cL_law 1029 = .ok (.laload, 1) := by decide +kernel
theorem dL_law_1030 : decode cL_law 1030 = .ok (.iload 6, 2) := by decide +kernel
theorem dL_law_1032 : decode cL_law 1032 = .ok (.i2l, 1) := by decide +kernel
theorem dL_law_1033 : decode cL_law 1033 = .ok (.lcmp, 1) := by decide +kernel
theorem dL_law_1034 : decode cL_law 1034 = .ok (.ifCond .eq 5, 3) := by decide +kernel
theorem dL_law_1037 : decode cL_law 1037 = .ok (.iconst 0, 1) := by decide +kernel
theorem dL_law_1038 : decode cL_law 1038 = .ok (.ireturn, 1) := by decide +kernel
theorem dL_law_1039 : decode cL_law 1039 = .ok (.goto 649, 3) := by decide +kernel
theorem dL_law_1042 : decode cL_law 1042 = .ok (.aload_n 1, 1) := by decide +kernel
theorem dL_law_1043 : decode cL_law 1043 = .ok (.invokevirtual 157, 3) := by decide +kernel
theorem dL_law_1046 : decode cL_law 1046 = .ok (.aload_n 2, 1) := by decide +kernel
theorem dL_law_1047 : decode cL_law 1047 = .ok (.invokevirtual 160, 3) := by decide +kernel
theorem dL_law_1050 : decode cL_law 1050 = .ok (.if_icmp .eq 638, 3) := by decide +kernel
theorem dL_law_1053 : decode cL_law 1053 = .ok (.iconst 0, 1) := by decide +kernel
theorem dL_law_1054 : decode cL_law 1054 = .ok (.ireturn, 1) := by decide +kernel
theorem dL_law_1055 : decode cL_law 1055 = .ok (.aload_n 1, 1) := by decide +kernel
theorem dL_law_1056 : decode cL_law 1056 = .ok (.aload_n 0, 1) := by decide +kernel
theorem dL_law_1057 : decode cL_law 1057 = .ok (.iload 4, 2) := by decide +kernel
theorem dL_law_1059 : decode cL_law 1059 = .ok (.iconst 1, 1) := by decide +kernel
theorem dL_law_1060 : decode cL_law 1060 = .ok (.iadd, 1) := by decide +kernel
theorem dL_law_1061 : decode cL_law 1061 = .ok (.iaload, 1) := by decide +kernel
theorem dL_law_1062 : decode cL_law 1062 = .ok (.aload_n 3, 1) := by decide +kernel
theorem dL_law_1063 : decode cL_law 1063 = .ok (.invokestatic 161, 3) := by decide +kernel
theorem dL_law_1066 : decode cL_law 1066 = .ok (.istore 5, 2) := by decide +kernel
theorem dL_law_1068 : decode cL_law 1068 = .ok (.aload_n 2, 1) := by decide +kernel
theorem dL_law_1069 : decode cL_law 1069 = .ok (.aload_n 0, 1) := by decide +kernel
theorem dL_law_1070 : decode cL_law 1070 = .ok (.iload 4, 2) := by decide +kernel
theorem dL_law_1072 : decode cL_law 1072 = .ok (.iconst 1, 1) := by decide +kernel
theorem dL_law_1073 : decode cL_law 1073 = .ok (.iadd, 1) := by decide +kernel
theorem dL_law_1074 : decode cL_law 1074 = .ok (.iaload, 1) := by decide +kernel
theorem dL_law_1075 : decode cL_law 1075 = .ok (.invokevirtual 163, 3) := by decide +kernel
theorem dL_law_1078 : decode cL_law 1078 = .ok (.istore 6, 2) := by decide +kernel
theorem dL_law_1080 : decode cL_law 1080 = .ok (.aload_n 2, 1) := by decide +kernel
theorem dL_law_1081 : decode cL_law 1081 = .ok (.invokevirtual 100, 3) := by decide +kernel
theorem dL_law_1084 : decode cL_law 1084 = .ok (.iload 5, 2) := by decide +kernel
theorem dL_law_1086 : decode cL_law 1086 = .ok (.if_icmp .eq 5, 3) := by decide +kernel
theorem dL_law_1089 : decode cL_law 1089 = .ok (.iconst 0, 1) := by decide +kernel
theorem dL_law_1090 : decode cL_law 1090 = .ok (.ireturn, 1) := by decide +kernel
theorem dL_law_1091 : decode cL_law 1091 = .ok (.iload 5, 2) := by decide +kernel
theorem dL_law_1093 : decode cL_law 1093 = .ok (.ifCond .ne 15, 3) := by decide +kernel
theorem dL_law_1096 : decode cL_law 1096 = .ok (.aload_n 3, 1) := by decide +kernel
theorem dL_law_1097 : decode cL_law 1097 = .ok (.iconst 0, 1) := by decide +kernel
theorem dL_law_1098 : decode cL_law 1098 = .ok (.laload, 1) := by decide +kernel
theorem dL_law_1099 : decode cL_law 1099 = .ok (.iload 6, 2) := by decide +kernel
theorem dL_law_1101 : decode cL_law 1101 = .ok (.i2l, 1) := by decide +kernel
theorem dL_law_1102 : decode cL_law 1102 = .ok (.lcmp, 1) := by decide +kernel
theorem dL_law_1103 : decode cL_law 1103 = .ok (.ifCond .eq 5, 3) := by decide +kernel
theorem dL_law_1106 : decode cL_law 1106 = .ok (.iconst 0, 1) := by decide +kernel
theorem dL_law_1107 : decode cL_law 1107 = .ok (.ireturn, 1) := by decide +kernel
theorem dL_law_1108 : decode cL_law 1108 = .ok (.goto 580, 3) := by decide +kernel
theorem dL_law_1111 : decode cL_law 1111 = .ok (.aload_n 1, 1) := by decide +kernel
theorem dL_law_1112 : decode cL_law 1112 = .ok (.aload_n 0, 1) := by decide +kernel
theorem dL_law_1113 : decode cL_law 1113 = .ok (.iload 4, 2) := by decide +kernel
theorem dL_law_1115 : decode cL_law 1115 = .ok (.iconst 1, 1) := by decide +kernel
theorem dL_law_1116 : decode cL_law 1116 = .ok (.iadd, 1) := by decide +kernel
theorem dL_law_1117 : decode cL_law 1117 = .ok (.iaload, 1) := by decide +kernel
theorem dL_law_1118 : decode cL_law 1118 = .ok (.aload_n 3, 1) := by decide +kernel
theorem dL_law_1119 : decode cL_law 1119 = .ok (.invokestatic 164, 3) := by decide +kernel
theorem dL_law_1122 : decode cL_law 1122 = .ok (.istore 5, 2) := by decide +kernel
theorem dL_law_1124 : decode cL_law 1124 = .ok (.aload_n 2, 1) := by decide +kernel
theorem dL_law_1125 : decode cL_law 1125 = .ok (.aload_n 0, 1) := by decide +kernel
theorem dL_law_1126 : decode cL_law 1126 = .ok (.iload 4, 2) := by decide +kernel
theorem dL_law_1128 : decode cL_law 1128 = .ok (.iconst 1, 1) := by decide +kernel
theorem dL_law_1129 : decode cL_law 1129 = .ok (.iadd, 1) := by decide +kernel
theorem dL_law_1130 : decode cL_law 1130 = .ok (.iaload, 1) := by decide +kernel
theorem dL_law_1131 : decode cL_law 1131 = .ok (.invokevirtual 166, 3) := by decide +kernel
theorem dL_law_1134 : decode cL_law 1134 = .ok (.istore 6, 2) := by decide +kernel
theorem dL_law_1136 : decode cL_law 1136 = .ok (.aload_n 2, 1) := by decide +kernel
theorem dL_law_1137 : decode cL_law 1137 = .ok (.invokevirtual 100, 3) := by decide +kernel
theorem dL_law_1140 : decode cL_law 1140 = .ok (.iload 5, 2) := by decide +kernel
theorem dL_law_1142 : decode cL_law 1142 = .ok (.if_icmp .eq 5, 3) := by decide +kernel
theorem dL_law_1145 : decode cL_law 1145 = .ok (.iconst 0, 1) := by decide +kernel
theorem dL_law_1146 : decode cL_law 1146 = .ok (.ireturn, 1) := by decide +kernel
theorem dL_law_1147 : decode cL_law 1147 = .ok (.iload 5, 2) := by decide +kernel
theorem dL_law_1149 : decode cL_law 1149 = .ok (.ifCond .ne 15, 3) := by decide +kernel
theorem dL_law_1152 : decode cL_law 1152 = .ok (.aload_n 3, 1) := by decide +kernel
theorem dL_law_1153 : decode cL_law 1153 = .ok (.iconst 0, 1) := by decide +kernel
theorem dL_law_1154 : decode cL_law 1154 = .ok (.laload, 1) := by decide +kernel
theorem dL_law_1155 : decode cL_law 1155 = .ok (.iload 6, 2) := by decide +kernel
theorem dL_law_1157 : decode cL_law 1157 = .ok (.i2l, 1) := by decide +kernel
theorem dL_law_1158 : decode cL_law 1158 = .ok (.lcmp, 1) := by decide +kernel
theorem dL_law_1159 : decode cL_law 1159 = .ok (.ifCond .eq 5, 3) := by decide +kernel
theorem dL_law_1162 : decode cL_law 1162 = .ok (.iconst 0, 1) := by decide +kernel
theorem dL_law_1163 : decode cL_law 1163 = .ok (.ireturn, 1) := by decide +kernel
theorem dL_law_1164 : decode cL_law 1164 = .ok (.goto 524, 3) := by decide +kernel
theorem dL_law_1167 : decode cL_law 1167 = .ok (.aload_n 1, 1) := by decide +kernel
theorem dL_law_1168 : decode cL_law 1168 = .ok (.aload_n 0, 1) := by decide +kernel
theorem dL_law_1169 : decode cL_law 1169 = .ok (.iload 4, 2) := by decide +kernel
theorem dL_law_1171 : decode cL_law 1171 = .ok (.iconst 1, 1) := by decide +kernel
theorem dL_law_1172 : decode cL_law 1172 = .ok (.iadd, 1) := by decide +kernel
theorem dL_law_1173 : decode cL_law 1173 = .ok (.iaload, 1) := by decide +kernel
theorem dL_law_1174 : decode cL_law 1174 = .ok (.aload_n 3, 1) := by decide +kernel
theorem dL_law_1175 : decode cL_law 1175 = .ok (.invokestatic 167, 3) := by decide +kernel
theorem dL_law_1178 : decode cL_law 1178 = .ok (.istore 5, 2) := by decide +kernel
theorem dL_law_1180 : decode cL_law 1180 = .ok (.aload_n 2, 1) := by decide +kernel
theorem dL_law_1181 : decode cL_law 1181 = .ok (.aload_n 0, 1) := by decide +kernel
theorem dL_law_1182 : decode cL_law 1182 = .ok (.iload 4, 2) := by decide +kernel
theorem dL_law_1184 : decode cL_law 1184 = .ok (.iconst 1, 1) := by decide +kernel
theorem dL_law_1185 : decode cL_law 1185 = .ok (.iadd, 1) := by decide +kernel
theorem dL_law_1186 : decode cL_law 1186 = .ok (.iaload, 1) := by decide +kernel
theorem dL_law_1187 : decode cL_law 1187 = .ok (.invokevirtual 169, 3) := by decide +kernel
theorem dL_law_1190 : decode cL_law 1190 = .ok (.istore 6, 2) := by decide +kernel
theorem dL_law_1192 : decode cL_law 1192 = .ok (.aload_n 2, 1) := by decide +kernel
theorem dL_law_1193 : decode cL_law 1193 = .ok (.invokevirtual 100, 3) := by decide +kernel
theorem dL_law_1196 : decode cL_law 1196 = .ok (.iload 5, 2) := by decide +kernel
theorem dL_law_1198 : decode cL_law 1198 = .ok (.if_icmp .eq 5, 3) := by decide +kernel
theorem dL_law_1201 : decode cL_law 1201 = .ok (.iconst 0, 1) := by decide +kernel
theorem dL_law_1202 : decode cL_law 1202 = .ok (.ireturn, 1) := by decide +kernel
theorem dL_law_1203 : decode cL_law 1203 = .ok (.iload 5, 2) := by decide +kernel
theorem dL_law_1205 : decode cL_law 1205 = .ok (.ifCond .ne 15, 3) := by decide +kernel
theorem dL_law_1208 : decode cL_law 1208 = .ok (.aload_n 3, 1) := by decide +kernel
theorem dL_law_1209 : decode cL_law 1209 = .ok (.iconst 0, 1) := by decide +kernel
theorem dL_law_1210 : decode cL_law 1210 = .ok (.laload, 1) := by decide +kernel
theorem dL_law_1211 : decode cL_law 1211 = .ok (.iload 6, 2) := by decide +kernel
theorem dL_law_1213 : decode cL_law 1213 = .ok (.i2l, 1) := by decide +kernel
theorem dL_law_1214 : decode cL_law 1214 = .ok (.lcmp, 1) := by decide +kernel
theorem dL_law_1215 : decode cL_law 1215 = .ok (.ifCond .eq 5, 3) := by decide +kernel
theorem dL_law_1218 : decode cL_law 1218 = .ok (.iconst 0, 1) := by decide +kernel
theorem dL_law_1219 : decode cL_law 1219 = .ok (.ireturn, 1) := by decide +kernel
theorem dL_law_1220 : decode cL_law 1220 = .ok (.goto 468, 3) := by decide +kernel
theorem dL_law_1223 : decode cL_law 1223 = .ok (.aload_n 1, 1) := by decide +kernel
theorem dL_law_1224 : decode cL_law 1224 = .ok (.invokevirtual 170, 3) := by decide +kernel
theorem dL_law_1227 : decode cL_law 1227 = .ok (.aload_n 2, 1) := by decide +kernel
theorem dL_law_1228 : decode cL_law 1228 = .ok (.invokevirtual 173, 3) := by decide +kernel
theorem dL_law_1231 : decode cL_law 1231 = .ok (.if_icmp .eq 457, 3) := by decide +kernel
theorem dL_law_1234 : decode cL_law 1234 = .ok (.iconst 0, 1) := by decide +kernel
theorem dL_law_1235 : decode cL_law 1235 = .ok (.ireturn, 1) := by decide +kernel
theorem dL_law_1236 : decode cL_law 1236 = .ok (.aload_n 1, 1) := by decide +kernel
theorem dL_law_1237 : decode cL_law 1237 = .ok (.aload_n 3, 1) := by decide +kernel
theorem dL_law_1238 : decode cL_law 1238 = .ok (.invokestatic 174, 3) := by decide +kernel
theorem dL_law_1241 : decode cL_law 1241 = .ok (.istore 5, 2) := by decide +kernel
theorem dL_law_1243 : decode cL_law 1243 = .ok (.aload_n 2, 1) := by decide +kernel
theorem dL_law_1244 : decode cL_law 1244 = .ok (.invokevirtual 176, 3) := by decide +kernel
theorem dL_law_1247 : decode cL_law 1247 = .ok (.istore 6, 2) := by decide +kernel
theorem dL_law_1249 : decode cL_law 1249 = .ok (.aload_n 2, 1) := by decide +kernel
theorem dL_law_1250 : decode cL_law 1250 = .ok (.invokevirtual 100, 3) := by decide +kernel
theorem dL_law_1253 : decode cL_law 1253 = .ok (.iload 5, 2) := by decide +kernel
theorem dL_law_1255 : decode cL_law 1255 = .ok (.if_icmp .eq 5, 3) := by decide +kernel
theorem dL_law_1258 : decode cL_law 1258 = .ok (.iconst 0, 1) := by decide +kernel
theorem dL_law_1259 : decode cL_law 1259 = .ok (.ireturn, 1) := by decide +kernel
theorem dL_law_1260 : decode cL_law 1260 = .ok (.iload 5, 2) := by decide +kernel
theorem dL_law_1262 : decode cL_law 1262 = .ok (.ifCond .ne 15, 3) := by decide +kernel
theorem dL_law_1265 : decode cL_law 1265 = .ok (.aload_n 3, 1) := by decide +kernel
theorem dL_law_1266 : decode cL_law 1266 = .ok (.iconst 0, 1) := by decide +kernel
theorem dL_law_1267 : decode cL_law 1267 = .ok (.laload, 1) := by decide +kernel
theorem dL_law_1268 : decode cL_law 1268 = .ok (.iload 6, 2) := by decide +kernel
theorem dL_law_1270 : decode cL_law 1270 = .ok (.i2l, 1) := by decide +kernel
theorem dL_law_1271 : decode cL_law 1271 = .ok (.lcmp, 1) := by decide +kernel
theorem dL_law_1272 : decode cL_law 1272 = .ok (.ifCond .eq 5, 3) := by decide +kernel
theorem dL_law_1275 : decode cL_law 1275 = .ok (.iconst 0, 1) := by decide +kernel
theorem dL_law_1276 : decode cL_law 1276 = .ok (.ireturn, 1) := by decide +kernel
theorem dL_law_1277 : decode cL_law 1277 = .ok (.goto 411, 3) := by decide +kernel
theorem dL_law_1280 : decode cL_law 1280 = .ok (.aload_n 1, 1) := by decide +kernel
theorem dL_law_1281 : decode cL_law 1281 = .ok (.invokevirtual 177, 3) := by decide +kernel
theorem dL_law_1284 : decode cL_law 1284 = .ok (.aload_n 2, 1) := by decide +kernel
theorem dL_law_1285 : decode cL_law 1285 = .ok (.invokevirtual 180, 3) := by decide +kernel
theorem dL_law_1288 : decode cL_law 1288 = .ok (.if_icmp .eq 400, 3) := by decide +kernel
theorem dL_law_1291 : decode cL_law 1291 = .ok (.iconst 0, 1) := by decide +kernel
theorem dL_law_1292 : decode cL_law 1292 = .ok (.ireturn, 1) := by decide +kernel
theorem dL_law_1293 : decode cL_law 1293 = .ok (.aload_n 1, 1) := by decide +kernel
theorem dL_law_1294 : decode cL_law 1294 = .ok (.aload_n 0, 1) := by decide +kernel
theorem dL_law_1295 : decode cL_law 1295 = .ok (.iload 4, 2) := by decide +kernel
theorem dL_law_1297 : decode cL_law 1297 = .ok (.iconst 1, 1) := by decide +kernel
theorem dL_law_1298 : decode cL_law 1298 = .ok (.iadd, 1) := by decide +kernel
theorem dL_law_1299 : decode cL_law 1299 = .ok (.iaload, 1) := by decide +kernel
theorem dL_law_1300 : decode cL_law 1300 = .ok (.invokevirtual 181, 3) := by decide +kernel
theorem dL_law_1303 : decode cL_law 1303 = .ok (.aload_n 2, 1) := by decide +kernel
theorem dL_law_1304 : decode cL_law 1304 = .ok (.aload_n 0, 1) := by decide +kernel
theorem dL_law_1305 : decode cL_law 1305 = .ok (.iload 4, 2) := by decide +kernel
theorem dL_law_1307 : decode cL_law 1307 = .ok (.iconst 1, 1) := by decide +kernel
theorem dL_law_1308 : decode cL_law 1308 = .ok (.iadd, 1) := by decide +kernel
theorem dL_law_1309 : decode cL_law 1309 = .ok (.iaload, 1) := by decide +kernel
theorem dL_law_1310 : decode cL_law 1310 = .ok (.invokevirtual 184, 3) := by decide +kernel
theorem dL_law_1313 : decode cL_law 1313 = .ok (.if_icmp .eq 375, 3) := by decide +kernel
theorem dL_law_1316 : decode cL_law 1316 = .ok (.iconst 0, 1) := by decide +kernel
theorem dL_law_1317 : decode cL_law 1317 = .ok (.ireturn, 1) := by decide +kernel
theorem dL_law_1318 : decode cL_law 1318 = .ok (.aload_n 1, 1) := by decide +kernel
theorem dL_law_1319 : decode cL_law 1319 = .ok (.aload_n 0, 1) := by decide +kernel
theorem dL_law_1320 : decode cL_law 1320 = .ok (.iload 4, 2) := by decide +kernel
theorem dL_law_1322 : decode cL_law 1322 = .ok (.iconst 1, 1) := by decide +kernel
theorem dL_law_1323 : decode cL_law 1323 = .ok (.iadd, 1) := by decide +kernel
theorem dL_law_1324 : decode cL_law 1324 = .ok (.iaload, 1) := by decide +kernel
theorem dL_law_1325 : decode cL_law 1325 = .ok (.aload_n 0, 1) := by decide +kernel
theorem dL_law_1326 : decode cL_law 1326 = .ok (.iload 4, 2) := by decide +kernel
theorem dL_law_1328 : decode cL_law 1328 = .ok (.iconst 2, 1) := by decide +kernel
theorem dL_law_1329 : decode cL_law 1329 = .ok (.iadd, 1) := by decide +kernel
theorem dL_law_1330 : decode cL_law 1330 = .ok (.iaload, 1) := by decide +kernel
theorem dL_law_1331 : decode cL_law 1331 = .ok (.aload_n 3, 1) := by decide +kernel
theorem dL_law_1332 : decode cL_law 1332 = .ok (.invokestatic 185, 3) := by decide +kernel
theorem dL_law_1335 : decode cL_law 1335 = .ok (.istore 5, 2) := by decide +kernel
theorem dL_law_1337 : decode cL_law 1337 = .ok (.aload_n 2, 1) := by decide +kernel
theorem dL_law_1338 : decode cL_law 1338 = .ok (.aload_n 0, 1) := by decide +kernel
theorem dL_law_1339 : decode cL_law 1339 = .ok (.iload 4, 2) := by decide +kernel
theorem dL_law_1341 : decode cL_law 1341 = .ok (.iconst 1, 1) := by decide +kernel
theorem dL_law_1342 : decode cL_law 1342 = .ok (.iadd, 1) := by decide +kernel
theorem dL_law_1343 : decode cL_law 1343 = .ok (.iaload, 1) := by decide +kernel
theorem dL_law_1344 : decode cL_law 1344 = .ok (.aload_n 0, 1) := by decide +kernel
theorem dL_law_1345 : decode cL_law 1345 = .ok (.iload 4, 2) := by decide +kernel
theorem dL_law_1347 : decode cL_law 1347 = .ok (.iconst 2, 1) := by decide +kernel
theorem dL_law_1348 : decode cL_law 1348 = .ok (.iadd, 1) := by decide +kernel
theorem dL_law_1349 : decode cL_law 1349 = .ok (.iaload, 1) := by decide +kernel
theorem dL_law_1350 : decode cL_law 1350 = .ok (.invokevirtual 187, 3) := by decide +kernel
theorem dL_law_1353 : decode cL_law 1353 = .ok (.istore 6, 2) := by decide +kernel
theorem dL_law_1355 : decode cL_law 1355 = .ok (.aload_n 2, 1) := by decide +kernel
theorem dL_law_1356 : decode cL_law 1356 = .ok (.invokevirtual 100, 3) := by decide +kernel
theorem dL_law_1359 : decode cL_law 1359 = .ok (.iload 5, 2) := by decide +kernel
theorem dL_law_1361 : decode cL_law 1361 = .ok (.if_icmp .eq 5, 3) := by decide +kernel
theorem dL_law_1364 : decode cL_law 1364 = .ok (.iconst 0, 1) := by decide +kernel
theorem dL_law_1365 : decode cL_law 1365 = .ok (.ireturn, 1) := by decide +kernel
theorem dL_law_1366 : decode cL_law 1366 = .ok (.iload 5, 2) := by decide +kernel
theorem dL_law_1368 : decode cL_law 1368 = .ok (.ifCond .ne 22, 3) := by decide +kernel
theorem dL_law_1371 : decode cL_law 1371 = .ok (.aload_n 3, 1) := by decide +kernel
theorem dL_law_1372 : decode cL_law 1372 = .ok (.iconst 0, 1) := by decide +kernel
theorem dL_law_1373 : decode cL_law 1373 = .ok (.laload, 1) := by decide +kernel
theorem dL_law_1374 : decode cL_law 1374 = .ok (.iload 6, 2) := by decide +kernel
theorem dL_law_1376 : decode cL_law 1376 = .ok (.ifCond .eq 7, 3) := by decide +kernel
theorem dL_law_1379 : decode cL_law 1379 = .ok (.lconst 1, 1) := by decide +kernel
theorem dL_law_1380 : decode cL_law 1380 = .ok (.goto 4, 3) := by decide +kernel
theorem dL_law_1383 : decode cL_law 1383 = .ok (.lconst 0, 1) := by decide +kernel
theorem dL_law_1384 : decode cL_law 1384 = .ok (.lcmp, 1) := by decide +kernel
theorem dL_law_1385 : decode cL_law 1385 = .ok (.ifCond .eq 5, 3) := by decide +kernel
theorem dL_law_1388 : decode cL_law 1388 = .ok (.iconst 0, 1) := by decide +kernel
theorem dL_law_1389 : decode cL_law 1389 = .ok (.ireturn, 1) := by decide +kernel
theorem dL_law_1390 : decode cL_law 1390 = .ok (.goto 298, 3) := by decide +kernel
theorem dL_law_1393 : decode cL_law 1393 = .ok (.aload_n 1, 1) := by decide +kernel
theorem dL_law_1394 : decode cL_law 1394 = .ok (.aload_n 0, 1) := by decide +kernel
theorem dL_law_1395 : decode cL_law 1395 = .ok (.iload 4, 2) := by decide +kernel
theorem dL_law_1397 : decode cL_law 1397 = .ok (.iconst 1, 1) := by decide +kernel
theorem dL_law_1398 : decode cL_law 1398 = .ok (.iadd, 1) := by decide +kernel
theorem dL_law_1399 : decode cL_law 1399 = .ok (.iaload, 1) := by decide +kernel
theorem dL_law_1400 : decode cL_law 1400 = .ok (.aload_n 0, 1) := by decide +kernel
theorem dL_law_1401 : decode cL_law 1401 = .ok (.iload 4, 2) := by decide +kernel
theorem dL_law_1403 : decode cL_law 1403 = .ok (.iconst 2, 1) := by decide +kernel
theorem dL_law_1404 : decode cL_law 1404 = .ok (.iadd, 1) := by decide +kernel
theorem dL_law_1405 : decode cL_law 1405 = .ok (.iaload, 1) := by decide +kernel
theorem dL_law_1406 : decode cL_law 1406 = .ok (.aload_n 3, 1) := by decide +kernel
theorem dL_law_1407 : decode cL_law 1407 = .ok (.invokestatic 188, 3) := by decide +kernel
theorem dL_law_1410 : decode cL_law 1410 = .ok (.istore 5, 2) := by decide +kernel
theorem dL_law_1412 : decode cL_law 1412 = .ok (.aload_n 2, 1) := by decide +kernel
theorem dL_law_1413 : decode cL_law 1413 = .ok (.aload_n 0, 1) := by decide +kernel
theorem dL_law_1414 : decode cL_law 1414 = .ok (.iload 4, 2) := by decide +kernel
theorem dL_law_1416 : decode cL_law 1416 = .ok (.iconst 1, 1) := by decide +kernel
theorem dL_law_1417 : decode cL_law 1417 = .ok (.iadd, 1) := by decide +kernel
theorem dL_law_1418 : decode cL_law 1418 = .ok (.iaload, 1) := by decide +kernel
theorem dL_law_1419 : decode cL_law 1419 = .ok (.aload_n 0, 1) := by decide +kernel
theorem dL_law_1420 : decode cL_law 1420 = .ok (.iload 4, 2) := by decide +kernel
theorem dL_law_1422 : decode cL_law 1422 = .ok (.iconst 2, 1) := by decide +kernel
theorem dL_law_1423 : decode cL_law 1423 = .ok (.iadd, 1) := by decide +kernel
theorem dL_law_1424 : decode cL_law 1424 = .ok (.iaload, 1) := by decide +kernel
theorem dL_law_1425 : decode cL_law 1425 = .ok (.invokevirtual 190, 3) := by decide +kernel
theorem dL_law_1428 : decode cL_law 1428 = .ok (.istore 6, 2) := by decide +kernel
theorem dL_law_1430 : decode cL_law 1430 = .ok (.aload_n 2, 1) := by decide +kernel
theorem dL_law_1431 : decode cL_law 1431 = .ok (.invokevirtual 100, 3) := by decide +kernel
theorem dL_law_1434 : decode cL_law 1434 = .ok (.iload 5, 2) := by decide +kernel
theorem dL_law_1436 : decode cL_law 1436 = .ok (.if_icmp .eq 5, 3) := by decide +kernel
theorem dL_law_1439 : decode cL_law 1439 = .ok (.iconst 0, 1) := by decide +kernel
theorem dL_law_1440 : decode cL_law 1440 = .ok (.ireturn, 1) := by decide +kernel
theorem dL_law_1441 : decode cL_law 1441 = .ok (.iload 5, 2) := by decide +kernel
theorem dL_law_1443 : decode cL_law 1443 = .ok (.ifCond .ne 22, 3) := by decide +kernel
theorem dL_law_1446 : decode cL_law 1446 = .ok (.aload_n 3, 1) := by decide +kernel
theorem dL_law_1447 : decode cL_law 1447 = .ok (.iconst 0, 1) := by decide +kernel
theorem dL_law_1448 : decode cL_law 1448 = .ok (.laload, 1) := by decide +kernel
theorem dL_law_1449 : decode cL_law 1449 = .ok (.iload 6, 2) := by decide +kernel
theorem dL_law_1451 : decode cL_law 1451 = .ok (.ifCond .eq 7, 3) := by decide +kernel
theorem dL_law_1454 : decode cL_law 1454 = .ok (.lconst 1, 1) := by decide +kernel
theorem dL_law_1455 : decode cL_law 1455 = .ok (.goto 4, 3) := by decide +kernel
theorem dL_law_1458 : decode cL_law 1458 = .ok (.lconst 0, 1) := by decide +kernel
theorem dL_law_1459 : decode cL_law 1459 = .ok (.lcmp, 1) := by decide +kernel
theorem dL_law_1460 : decode cL_law 1460 = .ok (.ifCond .eq 5, 3) := by decide +kernel
theorem dL_law_1463 : decode cL_law 1463 = .ok (.iconst 0, 1) := by decide +kernel
theorem dL_law_1464 : decode cL_law 1464 = .ok (.ireturn, 1) := by decide +kernel
theorem dL_law_1465 : decode cL_law 1465 = .ok (.goto 223, 3) := by decide +kernel
theorem dL_law_1468 : decode cL_law 1468 = .ok (.aload_n 1, 1) := by decide +kernel
theorem dL_law_1469 : decode cL_law 1469 = .ok (.invokevirtual 191, 3) := by decide +kernel
theorem dL_law_1472 : decode cL_law 1472 = .ok (.aload_n 2, 1) := by decide +kernel
theorem dL_law_1473 : decode cL_law 1473 = .ok (.invokevirtual 194, 3) := by decide +kernel
theorem dL_law_1476 : decode cL_law 1476 = .ok (.if_icmp .eq 212, 3) := by decide +kernel
theorem dL_law_1479 : decode cL_law 1479 = .ok (.iconst 0, 1) := by decide +kernel
theorem dL_law_1480 : decode cL_law 1480 = .ok (.ireturn, 1) := by decide +kernel
theorem dL_law_1481 : decode cL_law 1481 = .ok (.aload_n 1, 1) := by decide +kernel
theorem dL_law_1482 : decode cL_law 1482 = .ok (.invokevirtual 195, 3) := by decide +kernel
theorem dL_law_1485 : decode cL_law 1485 = .ok (.aload_n 2, 1) := by decide +kernel
theorem dL_law_1486 : decode cL_law 1486 = .ok (.invokevirtual 198, 3) := by decide +kernel
theorem dL_law_1489 : decode cL_law 1489 = .ok (.if_icmp .eq 199, 3) := by decide +kernel
theorem dL_law_1492 : decode cL_law 1492 = .ok (.iconst 0, 1) := by decide +kernel
theorem dL_law_1493 : decode cL_law 1493 = .ok (.ireturn, 1) := by decide +kernel
theorem dL_law_1494 : decode cL_law 1494 = .ok (.aload_n 1, 1) := by decide +kernel
theorem dL_law_1495 : decode cL_law 1495 = .ok (.invokevirtual 199, 3) := by decide +kernel
theorem dL_law_1498 : decode cL_law 1498 = .ok (.aload_n 2, 1) := by decide +kernel
theorem dL_law_1499 : decode cL_law 1499 = .ok (.invokevirtual 203, 3) := by decide +kernel
theorem dL_law_1502 : decode cL_law 1502 = .ok (.if_icmp .eq 186, 3) := by decide +kernel
theorem dL_law_1505 : decode cL_law 1505 = .ok (.iconst 0, 1) := by decide +kernel
theorem dL_law_1506 : decode cL_law 1506 = .ok (.ireturn, 1) := by decide +kernel
theorem dL_law_1507 : decode cL_law 1507 = .ok (.aload_n 1, 1) := by decide +kernel
theorem dL_law_1508 : decode cL_law 1508 = .ok (.aload_n 0, 1) := by decide +kernel
theorem dL_law_1509 : decode cL_law 1509 = .ok (.iload 4, 2) := by decide +kernel
theorem dL_law_1511 : decode cL_law 1511 = .ok (.iconst 1, 1) := by decide +kernel
theorem dL_law_1512 : decode cL_law 1512 = .ok (.iadd, 1) := by decide +kernel
theorem dL_law_1513 : decode cL_law 1513 = .ok (.iaload, 1) := by decide +kernel
theorem dL_law_1514 : decode cL_law 1514 = .ok (.aload_n 3, 1) := by decide +kernel
theorem dL_law_1515 : decode cL_law 1515 = .ok (.invokestatic 204, 3) := by decide +kernel
theorem dL_law_1518 : decode cL_law 1518 = .ok (.istore 5, 2) := by decide +kernel
theorem dL_law_1520 : decode cL_law 1520 = .ok (.aload_n 2, 1) := by decide +kernel
theorem dL_law_1521 : decode cL_law 1521 = .ok (.aload_n 0, 1) := by decide +kernel
theorem dL_law_1522 : decode cL_law 1522 = .ok (.iload 4, 2) := by decide +kernel
theorem dL_law_1524 : decode cL_law 1524 = .ok (.iconst 1, 1) := by decide +kernel
theorem dL_law_1525 : decode cL_law 1525 = .ok (.iadd, 1) := by decide +kernel
theorem dL_law_1526 : decode cL_law 1526 = .ok (.iaload, 1) := by decide +kernel
theorem dL_law_1527 : decode cL_law 1527 = .ok (.invokevirtual 206, 3) := by decide +kernel
theorem dL_law_1530 : decode cL_law 1530 = .ok (.istore 6, 2) := by decide +kernel
theorem dL_law_1532 : decode cL_law 1532 = .ok (.aload_n 2, 1) := by decide +kernel
theorem dL_law_1533 : decode cL_law 1533 = .ok (.invokevirtual 100, 3) := by decide +kernel
theorem dL_law_1536 : decode cL_law 1536 = .ok (.iload 5, 2) := by decide +kernel
theorem dL_law_1538 : decode cL_law 1538 = .ok (.if_icmp .eq 5, 3) := by decide +kernel
theorem dL_law_1541 : decode cL_law 1541 = .ok (.iconst 0, 1) := by decide +kernel
theorem dL_law_1542 : decode cL_law 1542 = .ok (.ireturn, 1) := by decide +kernel
theorem dL_law_1543 : decode cL_law 1543 = .ok (.iload 5, 2) := by decide +kernel
theorem dL_law_1545 : decode cL_law 1545 = .ok (.ifCond .ne 15, 3) := by decide +kernel
theorem dL_law_1548 : decode cL_law 1548 = .ok (.aload_n 3, 1) := by decide +kernel
theorem dL_law_1549 : decode cL_law 1549 = .ok (.iconst 0, 1) := by decide +kernel
theorem dL_law_1550 : decode cL_law 1550 = .ok (.laload, 1) := by decide +kernel
theorem dL_law_1551 : decode cL_law 1551 = .ok (.iload 6, 2) := by decide +kernel
theorem dL_law_1553 : decode cL_law 1553 = .ok (.i2l, 1) := by decide +kernel
theorem dL_law_1554 : decode cL_law 1554 = .ok (.lcmp, 1) := by decide +kernel
theorem dL_law_1555 : decode cL_law 1555 = .ok (.ifCond .eq 5, 3) := by decide +kernel
theorem dL_law_1558 : decode cL_law 1558 = .ok (.iconst 0, 1) := by decide +kernel
theorem dL_law_1559 : decode cL_law 1559 = .ok (.ireturn, 1) := by decide +kernel
theorem dL_law_1560 : decode cL_law 1560 = .ok (.goto 128, 3) := by decide +kernel
theorem dL_law_1563 : decode cL_law 1563 = .ok (.aload_n 1, 1) := by decide +kernel
theorem dL_law_1564 : decode cL_law 1564 = .ok (.invokevirtual 207, 3) := by decide +kernel
theorem dL_law_1567 : decode cL_law 1567 = .ok (.aload_n 2, 1) := by decide +kernel
theorem dL_law_1568 : decode cL_law 1568 = .ok (.invokevirtual 210, 3) := by decide +kernel
theorem dL_law_1571 : decode cL_law 1571 = .ok (.if_icmp .eq 117, 3) := by decide +kernel
theorem dL_law_1574 : decode cL_law 1574 = .ok (.iconst 0, 1) := by decide +kernel
theorem dL_law_1575 : decode cL_law 1575 = .ok (.ireturn, 1) := by decide +kernel
theorem dL_law_1576 : decode cL_law 1576 = .ok (.aload_n 1, 1) := by decide +kernel
theorem dL_law_1577 : decode cL_law 1577 = .ok (.aload_n 0, 1) := by decide +kernel
theorem dL_law_1578 : decode cL_law 1578 = .ok (.iload 4, 2) := by decide +kernel
theorem dL_law_1580 : decode cL_law 1580 = .ok (.iconst 1, 1) := by decide +kernel
theorem dL_law_1581 : decode cL_law 1581 = .ok (.iadd, 1) := by decide +kernel
theorem dL_law_1582 : decode cL_law 1582 = .ok (.iaload, 1) := by decide +kernel
theorem dL_law_1583 : decode cL_law 1583 = .ok (.aload_n 3, 1) := by decide +kernel
theorem dL_law_1584 : decode cL_law 1584 = .ok (.invokestatic 211, 3) := by decide +kernel
theorem dL_law_1587 : decode cL_law 1587 = .ok (.istore 5, 2) := by decide +kernel
theorem dL_law_1589 : decode cL_law 1589 = .ok (.aload_n 2, 1) := by decide +kernel
theorem dL_law_1590 : decode cL_law 1590 = .ok (.aload_n 0, 1) := by decide +kernel
theorem dL_law_1591 : decode cL_law 1591 = .ok (.iload 4, 2) := by decide +kernel
theorem dL_law_1593 : decode cL_law 1593 = .ok (.iconst 1, 1) := by decide +kernel
theorem dL_law_1594 : decode cL_law 1594 = .ok (.iadd, 1) := by decide +kernel
theorem dL_law_1595 : decode cL_law 1595 = .ok (.iaload, 1) := by decide +kernel
theorem dL_law_1596 : decode cL_law 1596 = .ok (.invokevirtual 213, 3) := by decide +kernel
theorem dL_law_1599 : decode cL_law 1599 = .ok (.istore 6, 2) := by decide +kernel
theorem dL_law_1601 : decode cL_law 1601 = .ok (.aload_n 2, 1) := by decide +kernel
theorem dL_law_1602 : decode cL_law 1602 = .ok (.invokevirtual 100, 3) := by decide +kernel
theorem dL_law_1605 : decode cL_law 1605 = .ok (.iload 5, 2) := by decide +kernel
theorem dL_law_1607 : decode cL_law 1607 = .ok (.if_icmp .eq 5, 3) := by decide +kernel
theorem dL_law_1610 : decode cL_law 1610 = .ok (.iconst 0, 1) := by decide +kernel
theorem dL_law_1611 : decode cL_law 1611 = .ok (.ireturn, 1) := by decide +kernel
theorem dL_law_1612 : decode cL_law 1612 = .ok (.iload 5, 2) := by decide +kernel
theorem dL_law_1614 : decode cL_law 1614 = .ok (.ifCond .ne 15, 3) := by decide +kernel
theorem dL_law_1617 : decode cL_law 1617 = .ok (.aload_n 3, 1) := by decide +kernel
theorem dL_law_1618 : decode cL_law 1618 = .ok (.iconst 0, 1) := by decide +kernel
theorem dL_law_1619 : decode cL_law 1619 = .ok (.laload, 1) := by decide +kernel
theorem dL_law_1620 : decode cL_law 1620 = .ok (.iload 6, 2) := by decide +kernel
theorem dL_law_1622 : decode cL_law 1622 = .ok (.i2l, 1) := by decide +kernel
theorem dL_law_1623 : decode cL_law 1623 = .ok (.lcmp, 1) := by decide +kernel
theorem dL_law_1624 : decode cL_law 1624 = .ok (.ifCond .eq 5, 3) := by decide +kernel
theorem dL_law_1627 : decode cL_law 1627 = .ok (.iconst 0, 1) := by decide +kernel
theorem dL_law_1628 : decode cL_law 1628 = .ok (.ireturn, 1) := by decide +kernel
theorem dL_law_1629 : decode cL_law 1629 = .ok (.goto 59, 3) := by decide +kernel
theorem dL_law_1632 : decode cL_law 1632 = .ok (.aload_n 1, 1) := by decide +kernel
theorem dL_law_1633 : decode cL_law 1633 = .ok (.aload_n 0, 1) := by decide +kernel
theorem dL_law_1634 : decode cL_law 1634 = .ok (.iload 4, 2) := by decide +kernel
theorem dL_law_1636 : decode cL_law 1636 = .ok (.iconst 1, 1) := by decide +kernel
theorem dL_law_1637 : decode cL_law 1637 = .ok (.iadd, 1) := by decide +kernel
theorem dL_law_1638 : decode cL_law 1638 = .ok (.iaload, 1) := by decide +kernel
theorem dL_law_1639 : decode cL_law 1639 = .ok (.aload_n 3, 1) := by decide +kernel
theorem dL_law_1640 : decode cL_law 1640 = .ok (.invokestatic 214, 3) := by decide +kernel
theorem dL_law_1643 : decode cL_law 1643 = .ok (.istore 5, 2) := by decide +kernel
theorem dL_law_1645 : decode cL_law 1645 = .ok (.aload_n 2, 1) := by decide +kernel
theorem dL_law_1646 : decode cL_law 1646 = .ok (.aload_n 0, 1) := by decide +kernel
theorem dL_law_1647 : decode cL_law 1647 = .ok (.iload 4, 2) := by decide +kernel
theorem dL_law_1649 : decode cL_law 1649 = .ok (.iconst 1, 1) := by decide +kernel
theorem dL_law_1650 : decode cL_law 1650 = .ok (.iadd, 1) := by decide +kernel
theorem dL_law_1651 : decode cL_law 1651 = .ok (.iaload, 1) := by decide +kernel
theorem dL_law_1652 : decode cL_law 1652 = .ok (.invokevirtual 216, 3) := by decide +kernel
theorem dL_law_1655 : decode cL_law 1655 = .ok (.istore 6, 2) := by decide +kernel
theorem dL_law_1657 : decode cL_law 1657 = .ok (.aload_n 2, 1) := by decide +kernel
theorem dL_law_1658 : decode cL_law 1658 = .ok (.invokevirtual 100, 3) := by decide +kernel
theorem dL_law_1661 : decode cL_law 1661 = .ok (.iload 5, 2) := by decide +kernel
theorem dL_law_1663 : decode cL_law 1663 = .ok (.if_icmp .eq 5, 3) := by decide +kernel
theorem dL_law_1666 : decode cL_law 1666 = .ok (.iconst 0, 1) := by decide +kernel
theorem dL_law_1667 : decode cL_law 1667 = .ok (.ireturn, 1) := by decide +kernel
theorem dL_law_1668 : decode cL_law 1668 = .ok (.iload 5, 2) := by decide +kernel
theorem dL_law_1670 : decode cL_law 1670 = .ok (.ifCond .ne 15, 3) := by decide +kernel
theorem dL_law_1673 : decode cL_law 1673 = .ok (.aload_n 3, 1) := by decide +kernel
theorem dL_law_1674 : decode cL_law 1674 = .ok (.iconst 0, 1) := by decide +kernel
theorem dL_law_1675 : decode cL_law 1675 = .ok (.laload, 1) := by decide +kernel
theorem dL_law_1676 : decode cL_law 1676 = .ok (.iload 6, 2) := by decide +kernel
theorem dL_law_1678 : decode cL_law 1678 = .ok (.i2l, 1) := by decide +kernel
theorem dL_law_1679 : decode cL_law 1679 = .ok (.lcmp, 1) := by decide +kernel
theorem dL_law_1680 : decode cL_law 1680 = .ok (.ifCond .eq 5, 3) := by decide +kernel
theorem dL_law_1683 : decode cL_law 1683 = .ok (.iconst 0, 1) := by decide +kernel
theorem dL_law_1684 : decode cL_law 1684 = .ok (.ireturn, 1) := by decide +kernel
theorem dL_law_1685 : decode cL_law 1685 = .ok (.goto 3, 3) := by decide +kernel
theorem dL_law_1688 : decode cL_law 1688 = .ok (.iinc 4 4, 3) := by decide +kernel
theorem dL_law_1691 : decode cL_law 1691 = .ok (.goto (-1668), 3) := by decide +kernel
theorem dL_law_1694 : decode cL_law 1694 = .ok (.iconst 1, 1) := by decide +kernel
theorem dL_law_1695 : decode cL_law 1695 = .ok (.ireturn, 1) := by decide +kernel
end
section
def A_0 : List Cond := [.code yX0_init cX0_init 1 none, .methodLink RX0 3 objectInit, .instanceMethod objectInit, .code objectInit ⟨#[0xb1]⟩ 1 none, .arrayClass .int, .fieldLink RX0 9 "CnfXorSolver$Elimination" "rowOfPivot" "[I", .fieldLink RX0 15 "CnfXorSolver$Elimination" "rowCount" "I", .fieldLink RX0 19 "CnfXorSolver$Elimination" "consistent" "Z", .code yX1_has cX1_has 2 (some .boolean), .fieldLink RX1 15 "CnfXorSolver$Formula" "count" "I", .code yX1_codeAt cX1_codeAt 2 (some .int), .fieldLink RX1 9 "CnfXorSolver$Formula" "codes" "[I", .methodLink RX1 19 yX1_has, .instanceMethod yX1_has, .selects RX1 yX1_has yX1_has, .initialized RX1, .code yX7_isParityCode cX7_isParityCode 1 (some .boolean), .constant RX7 321 (65536), .code yX7_contains cX7_contains 2 (some .boolean), .code yX0_reduced cX0_reduced 4 (some .int), .static yX7_contains, .initialized RX7, .code yX7_firstPart cX7_firstPart 1 (some .int), .code yX7_smallestVariable cX7_smallestVariable 2 (some .int), .methodLink RX7 317 yX7_contains, .code yX7_isVariable cX7_isVariable 1 (some .boolean), .code yX0_insert cX0_insert 4 none, .static yX7_firstPart, .static yX7_smallestVariable, .static yX7_isVariable]
set_option maxRecDepth 20000 in
theorem A_0_g : GoodIn lw_tbl A_0 := goodIn_of A_0 (by decide +kernel)
def A_1 : List Cond := [.constant RX0 36 (-65537), .methodLink RX0 28 yX1_codeAt, .instanceMethod yX1_codeAt, .selects RX1 yX1_codeAt yX1_codeAt, .static yX7_isParityCode, .methodLink RX0 37 yX0_reduced, .instanceMethod yX0_reduced, .selects RX0 yX0_reduced yX0_reduced, .initialized RX0, .methodLink RX0 40 yX0_insert, .instanceMethod yX0_insert, .selects RX0 yX0_insert yX0_insert, .code yX0_run cX0_run 4 none, .code yX0_rowAt cX0_rowAt 4 (some .int), .code yX1_init cX1_init 1 none, .methodLink RX1 3 objectInit, .code yX1_isFull cX1_isFull 1 (some .boolean), .code yX1_add cX1_add 2 none, .methodLink RX1 23 yX1_isFull, .instanceMethod yX1_isFull, .selects RX1 yX1_isFull yX1_isFull, .code yX1_removeAt cX1_removeAt 3 none, .code yX1_copyFrom cX1_copyFrom 3 none, .code yX7_variablesOf cX7_variablesOf 2 (some .int), .code yJ6_bitCount_0f7a4 cJ6_bitCount_0f7a4 1 (some .int), .constant RJ6 265 (1431655765), .constant RJ6 266 (858993459), .constant RJ6 267 (252645135), .code yX7_isViolated cX7_isViolated 4 (some .boolean), .methodLink RX7 322 yJ6_bitCount_0f7a4]
set_option maxRecDepth 20000 in
theorem A_1_g : GoodIn lw_tbl A_1 := goodIn_of A_1 (by decide +kernel)
def A_2 : List Cond := [.static yJ6_bitCount_0f7a4, .initialized RJ6, .code yX1_firstViolatedOrUnit cX1_firstViolatedOrUnit 5 (some .int), .static yX7_variablesOf, .methodLink RX1 31 yJ6_bitCount_0f7a4, .static yX7_isViolated, .code yX2_init cX2_init 1 none, .methodLink RX2 3 objectInit, .fieldLink RX2 9 "CnfXorSolver$FormulaText" "characters" "[I", .fieldLink RX2 15 "CnfXorSolver$FormulaText" "length" "I", .classLink RX2 19 RX1, .instantiable RX1 2, .fieldLink RX2 22 "CnfXorSolver$FormulaText" "formula" "LCnfXorSolver$Formula;", .fieldLink RX2 26 "CnfXorSolver$FormulaText" "place" "I", .fieldLink RX2 29 "CnfXorSolver$FormulaText" "itemFirst" "I", .fieldLink RX2 32 "CnfXorSolver$FormulaText" "itemSecond" "I", .instanceMethod yX1_init, .code yX2_put cX2_put 2 none, .code yX2_startItem cX2_startItem 1 none, .code yX2_isNewLetter cX2_isNewLetter 4 (some .boolean), .code yX2_takesClauseLetter cX2_takesClauseLetter 3 (some .boolean), .methodLink RX2 68 yX2_isNewLetter, .static yX2_isNewLetter, .initialized RX2, .code yX2_takesFirst cX2_takesFirst 2 (some .boolean), .methodLink RX2 64 yX1_isFull, .methodLink RX2 55 yX2_takesClauseLetter, .instanceMethod yX2_takesClauseLetter, .selects RX2 yX2_takesClauseLetter yX2_takesClauseLetter, .code yX7_clauseCode cX7_clauseCode 2 (some .int)]
set_option maxRecDepth 20000 in
theorem A_2_g : GoodIn lw_tbl A_2 := goodIn_of A_2 (by decide +kernel)
def A_3 : List Cond := [.code yX2_endsItem cX2_endsItem 2 (some .boolean), .methodLink RX2 75 yX1_add, .instanceMethod yX1_add, .selects RX1 yX1_add yX1_add, .methodLink RX2 38 yX2_startItem, .instanceMethod yX2_startItem, .selects RX2 yX2_startItem yX2_startItem, .code yX2_takesBit cX2_takesBit 2 (some .boolean), .code yX7_parityCode cX7_parityCode 2 (some .int), .static yX7_parityCode, .methodLink RX2 52 yX2_endsItem, .instanceMethod yX2_endsItem, .selects RX2 yX2_endsItem yX2_endsItem, .code yX2_takesInParity cX2_takesInParity 2 (some .boolean), .methodLink RX2 45 yX2_takesFirst, .instanceMethod yX2_takesFirst, .selects RX2 yX2_takesFirst yX2_takesFirst, .static yX7_clauseCode, .methodLink RX2 58 yX2_takesBit, .instanceMethod yX2_takesBit, .selects RX2 yX2_takesBit yX2_takesBit, .methodLink RX2 61 yX2_takesInParity, .instanceMethod yX2_takesInParity, .selects RX2 yX2_takesInParity yX2_takesInParity, .code yX2_takes cX2_takes 2 (some .boolean), .methodLink RX2 41 yX2_takes, .instanceMethod yX2_takes, .selects RX2 yX2_takes yX2_takes, .code yX2_read cX2_read 2 (some .int), .code yX5_init cX5_init 1 none]
set_option maxRecDepth 20000 in
theorem A_3_g : GoodIn lw_tbl A_3 := goodIn_of A_3 (by decide +kernel)
def A_4 : List Cond := [.methodLink RX5 3 objectInit, .classLink RX5 9 RX1, .fieldLink RX5 12 "CnfXorSolver$State" "formula" "LCnfXorSolver$Formula;", .fieldLink RX5 18 "CnfXorSolver$State" "decisions" "[I", .fieldLink RX5 22 "CnfXorSolver$State" "decisionCount" "I", .methodLink RX3 3 objectInit, .classLink RX3 9 RX5, .fieldLink RX3 11 "CnfXorSolver$Memory" "remembered" "[LCnfXorSolver$State;", .fieldLink RX3 17 "CnfXorSolver$Memory" "slots" "[LCnfXorSolver$State;", .arrayClass .boolean, .fieldLink RX3 20 "CnfXorSolver$Memory" "filled" "[Z", .fieldLink RX3 24 "CnfXorSolver$Memory" "rememberedCount" "I", .instantiable RX5 3, .initialized RX5, .instanceMethod yX5_init, .code yX3_init cX3_init 2 none, .code yX3_forgetOldest cX3_forgetOldest 3 none, .code yX5_copyFrom cX5_copyFrom 3 none, .methodLink RX5 35 yX1_copyFrom, .instanceMethod yX1_copyFrom, .selects RX1 yX1_copyFrom yX1_copyFrom, .code yX3_copyInto cX3_copyInto 2 none, .methodLink RX3 40 yX5_copyFrom, .instanceMethod yX5_copyFrom, .selects RX5 yX5_copyFrom yX5_copyFrom, .methodLink RX3 29 yX3_forgetOldest, .instanceMethod yX3_forgetOldest, .selects RX3 yX3_forgetOldest yX3_forgetOldest, .initialized RX3, .methodLink RX3 32 yX3_copyInto]
set_option maxRecDepth 20000 in
theorem A_4_g : GoodIn lw_tbl A_4 := goodIn_of A_4 (by decide +kernel)
def A_5 : List Cond := [.static yX3_copyInto, .code yX3_remember cX3_remember 2 none, .code yX3_takeBack cX3_takeBack 2 none, .code yX3_forgetAll cX3_forgetAll 1 none, .code yX3_isFilled cX3_isFilled 2 (some .boolean), .code yX3_fillSlot cX3_fillSlot 3 none, .methodLink RX3 36 yX3_isFilled, .instanceMethod yX3_isFilled, .selects RX3 yX3_isFilled yX3_isFilled, .code yX3_copySlot cX3_copySlot 3 none, .code yX3_emptySlots cX3_emptySlots 2 none, .code yX4_init cX4_init 1 none, .methodLink RX4 3 objectInit, .fieldLink RX4 9 "CnfXorSolver$ModelTable" "violated" "[I", .fieldLink RX4 15 "CnfXorSolver$ModelTable" "stale" "Z", .code yX4_violatedBy cX4_violatedBy 4 (some .int), .methodLink RX4 29 yX1_codeAt, .methodLink RX4 19 yX4_violatedBy, .static yX4_violatedBy, .initialized RX4, .code yX4_refresh cX4_refresh 3 none, .code yX4_countModels cX4_countModels 3 (some .int), .code yX4_modelAt cX4_modelAt 4 (some .int), .code yX4_allSatisfy cX4_allSatisfy 3 (some .boolean), .code yX4_canSatisfy cX4_canSatisfy 3 (some .boolean), .code yX5_decisionAt cX5_decisionAt 2 (some .int), .code yX5_addDecision cX5_addDecision 2 none, .code yX5_keepDecisions cX5_keepDecisions 2 none, .methodLink RX5 26 Lib.Math.min.name, .static Lib.Math.min.name]
set_option maxRecDepth 20000 in
theorem A_5_g : GoodIn lw_tbl A_5 := goodIn_of A_5 (by decide +kernel)
def A_6 : List Cond := [.initialized "java/lang/Math", .code Lib.Math.min.name Lib.Math.min.code 2 (some .int), .methodLink RX5 32 Lib.Math.max.name, .static Lib.Math.max.name, .code Lib.Math.max.name Lib.Math.max.code 2 (some .int), .code yX6_init cX6_init 1 none, .methodLink RX6 3 objectInit, .fieldLink RX6 9 "CnfXorSolver$Trail" "order" "[I", .fieldLink RX6 15 "CnfXorSolver$Trail" "levels" "[I", .fieldLink RX6 18 "CnfXorSolver$Trail" "reasons" "[I", .fieldLink RX6 21 "CnfXorSolver$Trail" "length" "I", .fieldLink RX6 25 "CnfXorSolver$Trail" "assigned" "I", .fieldLink RX6 28 "CnfXorSolver$Trail" "trueSet" "I", .fieldLink RX6 31 "CnfXorSolver$Trail" "topLevel" "I", .fieldLink RX6 34 "CnfXorSolver$Trail" "assignedBelow" "I", .fieldLink RX6 37 "CnfXorSolver$Trail" "conflictNumber" "I", .code yX6_assign cX6_assign 4 none, .methodLink RX6 82 yX1_firstViolatedOrUnit, .instanceMethod yX1_firstViolatedOrUnit, .selects RX1 yX1_firstViolatedOrUnit yX1_firstViolatedOrUnit, .methodLink RX6 88 yX1_codeAt, .methodLink RX6 78 yX6_assign, .instanceMethod yX6_assign, .selects RX6 yX6_assign yX6_assign, .initialized RX6, .code yX6_propagate cX6_propagate 6 none, .code yX7_variableOf cX7_variableOf 1 (some .int), .code yX6_isAssigned cX6_isAssigned 2 (some .boolean), .code yX6_allows cX6_allows 2 (some .boolean), .static yX7_variableOf]
set_option maxRecDepth 20000 in
theorem A_6_g : GoodIn lw_tbl A_6 := goodIn_of A_6 (by decide +kernel)
def A_7 : List Cond := [.methodLink RX6 71 yX6_isAssigned, .instanceMethod yX6_isAssigned, .selects RX6 yX6_isAssigned yX6_isAssigned, .code yX7_literalOf cX7_literalOf 2 (some .int), .code yX6_startLevel cX6_startLevel 3 none, .static yX7_literalOf, .methodLink RX6 46 yX6_propagate, .instanceMethod yX6_propagate, .selects RX6 yX6_propagate yX6_propagate, .methodLink RX6 53 yX5_decisionAt, .instanceMethod yX5_decisionAt, .selects RX5 yX5_decisionAt yX5_decisionAt, .methodLink RX6 57 yX6_allows, .instanceMethod yX6_allows, .selects RX6 yX6_allows yX6_allows, .methodLink RX6 61 yX6_startLevel, .instanceMethod yX6_startLevel, .selects RX6 yX6_startLevel yX6_startLevel, .methodLink RX6 65 yX5_keepDecisions, .instanceMethod yX5_keepDecisions, .selects RX5 yX5_keepDecisions yX5_keepDecisions, .code yX6_build cX6_build 4 none, .code yX6_isTrue cX6_isTrue 2 (some .boolean), .code yX6_literalAt cX6_literalAt 2 (some .int), .methodLink RX6 107 yX6_isTrue, .instanceMethod yX6_isTrue, .selects RX6 yX6_isTrue yX6_isTrue, .code yX6_reasonOf cX6_reasonOf 2 (some .int), .methodLink RX6 110 yJ6_bitCount_0f7a4, .methodLink RX6 115 yX6_reasonOf]
set_option maxRecDepth 20000 in
theorem A_7_g : GoodIn lw_tbl A_7 := goodIn_of A_7 (by decide +kernel)
def A_8 : List Cond := [.instanceMethod yX6_reasonOf, .selects RX6 yX6_reasonOf yX6_reasonOf, .code yX6_learnedVariables cX6_learnedVariables 7 (some .int), .code yX6_backjumpLevel cX6_backjumpLevel 4 (some .int), .methodLink RX6 118 Lib.Math.max.name, .code yX6_falseClause cX6_falseClause 2 (some .int), .methodLink RX7 1 objectInit, .classLink RX7 7 RX2, .instantiable RX2 6, .fieldLink RX7 10 "CnfXorSolver" "text" "LCnfXorSolver$FormulaText;", .classLink RX7 16 RX5, .fieldLink RX7 19 "CnfXorSolver" "state" "LCnfXorSolver$State;", .classLink RX7 23 RX6, .instantiable RX6 9, .fieldLink RX7 26 "CnfXorSolver" "trail" "LCnfXorSolver$Trail;", .classLink RX7 30 RX3, .instantiable RX3 4, .fieldLink RX7 33 "CnfXorSolver" "memory" "LCnfXorSolver$Memory;", .classLink RX7 37 RX4, .instantiable RX4 2, .fieldLink RX7 40 "CnfXorSolver" "models" "LCnfXorSolver$ModelTable;", .classLink RX7 44 RX0, .instantiable RX0 3, .fieldLink RX7 47 "CnfXorSolver" "elimination" "LCnfXorSolver$Elimination;", .fieldLink RX7 51 "CnfXorSolver" "copy" "LCnfXorSolver$State;", .fieldLink RX7 54 "CnfXorSolver" "copyTrail" "LCnfXorSolver$Trail;", .instanceMethod yX2_init, .instanceMethod yX6_init, .methodLink RX7 32 yX3_init, .instanceMethod yX3_init]
set_option maxRecDepth 20000 in
theorem A_8_g : GoodIn lw_tbl A_8 := goodIn_of A_8 (by decide +kernel)
def A_9 : List Cond := [.instanceMethod yX4_init, .instanceMethod yX0_init, .code yX7_init cX7_init 1 none, .code yX7_append cX7_append 2 (some .int), .classLink RX7 57 "java/lang/IllegalArgumentException", .initialized "java/lang/IllegalArgumentException", .classLink RX7 68 "java/lang/IllegalStateException", .initialized "java/lang/IllegalStateException", .methodLink RX7 73 yX2_put, .instanceMethod yX2_put, .selects RX2 yX2_put yX2_put, .code yX7_clearText cX7_clearText 2 (some .int), .methodLink RX7 77 yX2_read, .instanceMethod yX2_read, .selects RX2 yX2_read yX2_read, .code yX7_errorPosition cX7_errorPosition 1 (some .int), .methodLink RX7 254 yX6_build, .instanceMethod yX6_build, .selects RX6 yX6_build yX6_build, .code yX7_rebuild cX7_rebuild 1 none, .methodLink RX7 88 yX1_copyFrom, .methodLink RX7 94 yX5_keepDecisions, .methodLink RX7 97 yX3_forgetAll, .instanceMethod yX3_forgetAll, .selects RX3 yX3_forgetAll yX3_forgetAll, .methodLink RX7 100 yX3_emptySlots, .instanceMethod yX3_emptySlots, .selects RX3 yX3_emptySlots yX3_emptySlots, .methodLink RX7 103 yX7_rebuild, .instanceMethod yX7_rebuild]
set_option maxRecDepth 20000 in
theorem A_9_g : GoodIn lw_tbl A_9 := goodIn_of A_9 (by decide +kernel)
def A_10 : List Cond := [.selects RX7 yX7_rebuild yX7_rebuild, .code yX7_load cX7_load 1 (some .int), .code yX7_constraintCount cX7_constraintCount 1 (some .int), .code yX7_requireConstraint cX7_requireConstraint 2 none, .classLink RX7 164 "java/lang/IndexOutOfBoundsException", .initialized "java/lang/IndexOutOfBoundsException", .methodLink RX7 292 yX1_has, .code yX7_isParity cX7_isParity 2 (some .boolean), .methodLink RX7 109 yX7_requireConstraint, .instanceMethod yX7_requireConstraint, .selects RX7 yX7_requireConstraint yX7_requireConstraint, .methodLink RX7 112 yX1_codeAt, .methodLink RX7 116 yX7_isParityCode, .code yX7_variables cX7_variables 2 (some .int), .methodLink RX7 120 yX7_firstPart, .code yX7_secondPart cX7_secondPart 1 (some .int), .code yX7_negated cX7_negated 2 (some .int), .methodLink RX7 123 yX7_secondPart, .static yX7_secondPart, .code yX7_isSet cX7_isSet 1 (some .boolean), .code yX7_requireClause cX7_requireClause 2 none, .methodLink RX7 308 yX7_isSet, .static yX7_isSet, .code yX7_requireRoom cX7_requireRoom 1 none, .methodLink RX7 260 yX1_isFull, .methodLink RX7 146 yX3_remember, .instanceMethod yX3_remember, .selects RX3 yX3_remember yX3_remember, .methodLink RX7 282 yX1_add, .code yX7_addConstraint cX7_addConstraint 2 (some .int)]
set_option maxRecDepth 20000 in
theorem A_10_g : GoodIn lw_tbl A_10 := goodIn_of A_10 (by decide +kernel)
def A_11 : List Cond := [.methodLink RX7 126 yX7_requireClause, .static yX7_requireClause, .methodLink RX7 130 yX7_requireRoom, .instanceMethod yX7_requireRoom, .selects RX7 yX7_requireRoom yX7_requireRoom, .methodLink RX7 133 yX7_clauseCode, .methodLink RX7 137 yX7_addConstraint, .instanceMethod yX7_addConstraint, .selects RX7 yX7_addConstraint yX7_addConstraint, .code yX7_addClause cX7_addClause 3 (some .int), .code yX7_requireParity cX7_requireParity 2 none, .methodLink RX7 140 yX7_requireParity, .static yX7_requireParity, .methodLink RX7 143 yX7_parityCode, .code yX7_addParity cX7_addParity 3 (some .int), .methodLink RX7 150 yX1_removeAt, .instanceMethod yX1_removeAt, .selects RX1 yX1_removeAt yX1_removeAt, .code yX7_removeConstraint cX7_removeConstraint 2 (some .int), .code yX7_requireVariable cX7_requireVariable 1 none, .methodLink RX7 301 yX7_isVariable, .methodLink RX7 153 yX7_requireVariable, .static yX7_requireVariable, .code yX7_resolve cX7_resolve 9 (some .int), .code yX7_sum cX7_sum 7 (some .int), .methodLink RX7 174 yX7_variableOf, .methodLink RX7 177 yX6_isAssigned, .methodLink RX7 182 yX5_addDecision, .instanceMethod yX5_addDecision, .selects RX5 yX5_addDecision yX5_addDecision]
set_option maxRecDepth 20000 in
theorem A_11_g : GoodIn lw_tbl A_11 := goodIn_of A_11 (by decide +kernel)
def A_12 : List Cond := [.code yX7_decide cX7_decide 2 (some .int), .code yX7_backtrack cX7_backtrack 2 (some .int), .code yX7_requireAnalysis cX7_requireAnalysis 1 none, .methodLink RX7 217 yX6_learnedVariables, .instanceMethod yX6_learnedVariables, .selects RX6 yX6_learnedVariables yX6_learnedVariables, .methodLink RX7 285 yX6_backjumpLevel, .instanceMethod yX6_backjumpLevel, .selects RX6 yX6_backjumpLevel yX6_backjumpLevel, .methodLink RX7 221 yX6_falseClause, .instanceMethod yX6_falseClause, .selects RX6 yX6_falseClause yX6_falseClause, .code yX7_learnInto cX7_learnInto 4 (some .int), .methodLink RX7 191 yX7_requireAnalysis, .instanceMethod yX7_requireAnalysis, .selects RX7 yX7_requireAnalysis yX7_requireAnalysis, .methodLink RX7 194 yX7_learnInto, .static yX7_learnInto, .code yX7_learn cX7_learn 2 (some .int), .methodLink RX7 203 yX3_takeBack, .instanceMethod yX3_takeBack, .selects RX3 yX3_takeBack yX3_takeBack, .code yX7_undo cX7_undo 1 (some .int), .code yX7_level cX7_level 1 (some .int), .code yX7_value cX7_value 2 (some .int), .methodLink RX7 206 yX6_isTrue, .code yX7_trailLiteral cX7_trailLiteral 2 (some .int), .methodLink RX7 211 yX6_literalAt, .instanceMethod yX6_literalAt, .selects RX6 yX6_literalAt yX6_literalAt]
set_option maxRecDepth 20000 in
theorem A_12_g : GoodIn lw_tbl A_12 := goodIn_of A_12 (by decide +kernel)
def A_13 : List Cond := [.code yX7_reason cX7_reason 2 (some .int), .methodLink RX7 214 yX6_reasonOf, .code yX7_conflict cX7_conflict 1 (some .int), .code yX7_learnedClause cX7_learnedClause 1 (some .int), .methodLink RX7 224 yX4_refresh, .instanceMethod yX4_refresh, .selects RX4 yX4_refresh yX4_refresh, .methodLink RX7 227 yX4_countModels, .instanceMethod yX4_countModels, .selects RX4 yX4_countModels yX4_countModels, .code yX7_modelCount cX7_modelCount 1 (some .int), .methodLink RX7 230 yX4_modelAt, .instanceMethod yX4_modelAt, .selects RX4 yX4_modelAt yX4_modelAt, .code yX7_model cX7_model 2 (some .int), .methodLink RX7 233 yX4_allSatisfy, .instanceMethod yX4_allSatisfy, .selects RX4 yX4_allSatisfy yX4_allSatisfy, .code yX7_impliesClause cX7_impliesClause 3 (some .boolean), .code yX7_impliesParity cX7_impliesParity 3 (some .boolean), .methodLink RX7 236 yX4_canSatisfy, .instanceMethod yX4_canSatisfy, .selects RX4 yX4_canSatisfy yX4_canSatisfy, .code yX7_core cX7_core 4 (some .int), .methodLink RX7 239 yX0_run, .instanceMethod yX0_run, .selects RX0 yX0_run yX0_run, .code yX7_rank cX7_rank 1 (some .int), .code yX7_isConsistent cX7_isConsistent 1 (some .boolean), .methodLink RX7 251 yX0_rowAt]
set_option maxRecDepth 20000 in
theorem A_13_g : GoodIn lw_tbl A_13 := goodIn_of A_13 (by decide +kernel)
def A_14 : List Cond := [.instanceMethod yX0_rowAt, .selects RX0 yX0_rowAt yX0_rowAt, .code yX7_eliminatedRow cX7_eliminatedRow 2 (some .int), .methodLink RX7 288 yX7_literalOf, .code yX7_decideOpenVariables cX7_decideOpenVariables 2 none, .methodLink RX7 257 yX7_decideOpenVariables, .instanceMethod yX7_decideOpenVariables, .selects RX7 yX7_decideOpenVariables yX7_decideOpenVariables, .code yX7_solve cX7_solve 2 (some .int), .code yX7_requireSlot cX7_requireSlot 1 none, .methodLink RX7 264 yX7_requireSlot, .static yX7_requireSlot, .methodLink RX7 267 yX3_fillSlot, .instanceMethod yX3_fillSlot, .selects RX3 yX3_fillSlot yX3_fillSlot, .code yX7_save cX7_save 2 (some .int), .methodLink RX7 271 yX3_isFilled, .methodLink RX7 276 yX3_copySlot, .instanceMethod yX3_copySlot, .selects RX3 yX3_copySlot yX3_copySlot, .code yX7_restore cX7_restore 2 (some .int), .code yX8_init cX8_init 2 none, .methodLink RX8 1 objectInit, .fieldLink RX8 7 "CnfXorSolverModel" "now" "[I", .fieldLink RX8 13 "CnfXorSolverModel" "trial" "[I", .fieldLink RX8 16 "CnfXorSolverModel" "diary" "[I", .fieldLink RX8 19 "CnfXorSolverModel" "kept" "[I", .fieldLink RX8 22 "CnfXorSolverModel" "isKept" "[Z", .fieldLink RX8 26 "CnfXorSolverModel" "trail" "[I", .fieldLink RX8 29 "CnfXorSolverModel" "levelOf" "[I"]
set_option maxRecDepth 20000 in
theorem A_14_g : GoodIn lw_tbl A_14 := goodIn_of A_14 (by decide +kernel)
def A_15 : List Cond := [.fieldLink RX8 32 "CnfXorSolverModel" "reasonOf" "[I", .fieldLink RX8 35 "CnfXorSolverModel" "placeOf" "[I", .fieldLink RX8 38 "CnfXorSolverModel" "conflict" "I", .fieldLink RX8 42 "CnfXorSolverModel" "script" "[I", .fieldLink RX8 45 "CnfXorSolverModel" "read" "[I", .fieldLink RX8 48 "CnfXorSolverModel" "lines" "[I", .code yX8_thrown cX8_thrown 1 (some .int), .fieldLink RX8 51 "CnfXorSolverModel" "refusal" "I", .code yX8_refused cX8_refused 2 (some .boolean), .code yX8_in cX8_in 6 (some .boolean), .code yX8_has cX8_has 2 (some .boolean), .code yX8_bits cX8_bits 3 (some .int), .code yX8_lowest cX8_lowest 2 (some .int), .methodLink RX8 54 yX8_has, .static yX8_has, .initialized RX8, .code yX8_copy cX8_copy 3 none, .code yX8_variablesOf cX8_variablesOf 2 (some .int), .code yX8_isSatisfied cX8_isSatisfied 3 (some .boolean), .methodLink RX8 58 yX8_bits, .static yX8_bits, .code yX8_addTo cX8_addTo 5 none, .code yX8_assign cX8_assign 4 none, .fieldLink RX8 62 "CnfXorSolverModel" "assigned" "I", .fieldLink RX8 65 "CnfXorSolverModel" "trues" "I", .fieldLink RX8 68 "CnfXorSolverModel" "trailSize" "I", .fieldLink RX8 71 "CnfXorSolverModel" "level" "I", .code yX8_stateOf cX8_stateOf 5 (some .int), .methodLink RX8 74 yX8_variablesOf, .static yX8_variablesOf]
set_option maxRecDepth 20000 in
theorem A_15_g : GoodIn lw_tbl A_15 := goodIn_of A_15 (by decide +kernel)
def A_16 : List Cond := [.methodLink RX8 78 yX8_isSatisfied, .static yX8_isSatisfied, .methodLink RX8 82 yX8_stateOf, .instanceMethod yX8_stateOf, .selects RX8 yX8_stateOf yX8_stateOf, .methodLink RX8 85 yX8_lowest, .static yX8_lowest, .methodLink RX8 88 yX8_assign, .instanceMethod yX8_assign, .selects RX8 yX8_assign yX8_assign, .code yX8_propagate cX8_propagate 6 none, .methodLink RX8 92 yX8_propagate, .instanceMethod yX8_propagate, .selects RX8 yX8_propagate yX8_propagate, .code yX8_build cX8_build 5 none, .fieldLink RX8 96 "CnfXorSolverModel" "next" "I", .fieldLink RX8 99 "CnfXorSolverModel" "acts" "I", .methodLink RX8 102 yX8_copy, .static yX8_copy, .methodLink RX8 106 yX8_build, .instanceMethod yX8_build, .selects RX8 yX8_build yX8_build, .code yX8_act cX8_act 2 none, .code yX8_append cX8_append 2 (some .int), .constantLong RX8 109 (255), .fieldLink RX8 115 "CnfXorSolverModel" "scriptSize" "I", .methodLink RX8 111 yX8_in, .static yX8_in, .methodLink RX8 118 yX8_refused, .instanceMethod yX8_refused]
set_option maxRecDepth 20000 in
theorem A_16_g : GoodIn lw_tbl A_16 := goodIn_of A_16 (by decide +kernel)
def A_17 : List Cond := [.selects RX8 yX8_refused yX8_refused, .code yX8_clearText cX8_clearText 2 (some .int), .code yX8_character cX8_character 1 (some .int), .fieldLink RX8 122 "CnfXorSolverModel" "spot" "I", .code yX8_readParity cX8_readParity 3 (some .boolean), .constantLong RX8 129 (97), .constantLong RX8 131 (104), .methodLink RX8 125 yX8_character, .instanceMethod yX8_character, .selects RX8 yX8_character yX8_character, .methodLink RX8 133 yX8_addTo, .static yX8_addTo, .code yX8_readClause cX8_readClause 6 (some .boolean), .constantLong RX8 137 (65), .constantLong RX8 139 (72), .methodLink RX8 141 yX8_readParity, .instanceMethod yX8_readParity, .selects RX8 yX8_readParity yX8_readParity, .methodLink RX8 145 yX8_readClause, .instanceMethod yX8_readClause, .selects RX8 yX8_readClause yX8_readClause, .code yX8_readText cX8_readText 2 (some .int), .methodLink RX8 148 yX8_readText, .instanceMethod yX8_readText, .selects RX8 yX8_readText yX8_readText, .code yX8_errorPosition cX8_errorPosition 1 (some .int), .code yX8_load cX8_load 1 (some .int), .code yX8_isConstraint cX8_isConstraint 2 (some .boolean), .code yX8_constraintCount cX8_constraintCount 1 (some .int), .code yX8_isParity cX8_isParity 2 (some .boolean)]
set_option maxRecDepth 20000 in
theorem A_17_g : GoodIn lw_tbl A_17 := goodIn_of A_17 (by decide +kernel)
def A_18 : List Cond := [.methodLink RX8 151 yX8_isConstraint, .instanceMethod yX8_isConstraint, .selects RX8 yX8_isConstraint yX8_isConstraint, .code yX8_variables cX8_variables 2 (some .int), .code yX8_negated cX8_negated 2 (some .int), .code yX8_isClause cX8_isClause 2 (some .boolean), .code yX8_isSum cX8_isSum 2 (some .boolean), .methodLink RX8 154 yX8_act, .instanceMethod yX8_act, .selects RX8 yX8_act yX8_act, .code yX8_added cX8_added 4 (some .int), .methodLink RX8 157 yX8_isClause, .static yX8_isClause, .methodLink RX8 160 yX8_added, .instanceMethod yX8_added, .selects RX8 yX8_added yX8_added, .code yX8_addClause cX8_addClause 3 (some .int), .methodLink RX8 164 yX8_isSum, .static yX8_isSum, .code yX8_addParity cX8_addParity 3 (some .int), .code yX8_removeConstraint cX8_removeConstraint 3 (some .int), .constantLong RX8 167 (7), .code yX8_resolve cX8_resolve 7 (some .int), .code yX8_sum cX8_sum 3 (some .int), .constantLong RX8 169 (15), .code yX8_decide cX8_decide 2 (some .int), .code yX8_backtrack cX8_backtrack 2 (some .int), .code yX8_canLearn cX8_canLearn 1 (some .boolean), .code yX8_atLevel cX8_atLevel 4 (some .int), .code yX8_latest cX8_latest 4 (some .int)]
set_option maxRecDepth 20000 in
theorem A_18_g : GoodIn lw_tbl A_18 := goodIn_of A_18 (by decide +kernel)
def A_19 : List Cond := [.code yX8_analyse cX8_analyse 5 (some .int), .fieldLink RX8 177 "CnfXorSolverModel" "learnedP" "I", .fieldLink RX8 180 "CnfXorSolverModel" "learnedN" "I", .methodLink RX8 171 yX8_atLevel, .instanceMethod yX8_atLevel, .selects RX8 yX8_atLevel yX8_atLevel, .methodLink RX8 174 yX8_latest, .instanceMethod yX8_latest, .selects RX8 yX8_latest yX8_latest, .methodLink RX8 183 yX8_canLearn, .instanceMethod yX8_canLearn, .selects RX8 yX8_canLearn yX8_canLearn, .methodLink RX8 186 yX8_analyse, .instanceMethod yX8_analyse, .selects RX8 yX8_analyse yX8_analyse, .code yX8_learn cX8_learn 2 (some .int), .code yX8_undo cX8_undo 2 (some .int), .code yX8_level cX8_level 1 (some .int), .code yX8_value cX8_value 2 (some .int), .code yX8_trailLiteral cX8_trailLiteral 2 (some .int), .code yX8_reason cX8_reason 2 (some .int), .code yX8_conflict cX8_conflict 1 (some .int), .code yX8_learnedClause cX8_learnedClause 1 (some .int), .code yX8_isModel cX8_isModel 5 (some .boolean), .code yX8_everything cX8_everything 1 (some .int), .code yX8_modelCount cX8_modelCount 3 (some .int), .methodLink RX8 190 yX8_everything, .instanceMethod yX8_everything, .selects RX8 yX8_everything yX8_everything, .methodLink RX8 193 yX8_isModel]
set_option maxRecDepth 20000 in
theorem A_19_g : GoodIn lw_tbl A_19 := goodIn_of A_19 (by decide +kernel)
def A_20 : List Cond := [.instanceMethod yX8_isModel, .selects RX8 yX8_isModel yX8_isModel, .code yX8_model cX8_model 4 (some .int), .code yX8_implies cX8_implies 6 (some .boolean), .methodLink RX8 196 yX8_implies, .instanceMethod yX8_implies, .selects RX8 yX8_implies yX8_implies, .code yX8_impliesClause cX8_impliesClause 3 (some .boolean), .code yX8_impliesParity cX8_impliesParity 3 (some .boolean), .code yX8_hasModel cX8_hasModel 4 (some .boolean), .code yX8_core cX8_core 3 (some .int), .methodLink RX8 200 yX8_hasModel, .instanceMethod yX8_hasModel, .selects RX8 yX8_hasModel yX8_hasModel, .code yX8_eliminate cX8_eliminate 5 none, .fieldLink RX8 203 "CnfXorSolverModel" "lineCount" "I", .fieldLink RX8 206 "CnfXorSolverModel" "isSound" "Z", .code yX8_rank cX8_rank 1 (some .int), .methodLink RX8 210 yX8_eliminate, .instanceMethod yX8_eliminate, .selects RX8 yX8_eliminate yX8_eliminate, .code yX8_isConsistent cX8_isConsistent 1 (some .boolean), .code yX8_eliminatedRow cX8_eliminatedRow 2 (some .int), .code yX8_solved cX8_solved 3 (some .int), .methodLink RX8 213 yX8_solved, .instanceMethod yX8_solved, .selects RX8 yX8_solved yX8_solved, .code yX8_solve cX8_solve 2 (some .int), .code yX8_save cX8_save 3 (some .int), .code yX8_restore cX8_restore 3 (some .int)]
set_option maxRecDepth 20000 in
theorem A_20_g : GoodIn lw_tbl A_20 := goodIn_of A_20 (by decide +kernel)
def A_21 : List Cond := [.code yJ9_max_7cf53 cJ9_max_7cf53 2 (some .int), .code yJ9_min_7cf53 cJ9_min_7cf53 2 (some .int), .codeWith yL_append cL_append 4 (some .int) [(0, 9, 12, 13), (0, 9, 15, 15)], .classLink RL 13 "java/lang/IllegalArgumentException", .classLink RL 15 "java/lang/IllegalStateException", .methodLink RL 7 yX7_append, .instanceMethod yX7_append, .selects RX7 yX7_append yX7_append, .methodLink RL 17 yX7_load, .instanceMethod yX7_load, .selects RX7 yX7_load yX7_load, .codeWith yL_load cL_load 3 (some .int) [(0, 8, 11, 15)], .classLink RL 25 "java/lang/IndexOutOfBoundsException", .methodLink RL 21 yX7_isParity, .instanceMethod yX7_isParity, .selects RX7 yX7_isParity yX7_isParity, .codeWith yL_isParity cL_isParity 4 (some .int) [(0, 16, 19, 25)], .methodLink RL 27 yX7_variables, .instanceMethod yX7_variables, .selects RX7 yX7_variables yX7_variables, .codeWith yL_variables cL_variables 4 (some .int) [(0, 9, 12, 25)], .methodLink RL 30 yX7_negated, .instanceMethod yX7_negated, .selects RX7 yX7_negated yX7_negated, .codeWith yL_negated cL_negated 4 (some .int) [(0, 9, 12, 25)], .methodLink RL 33 yX7_addClause, .instanceMethod yX7_addClause, .selects RX7 yX7_addClause yX7_addClause, .codeWith yL_addClause cL_addClause 5 (some .int) [(0, 10, 13, 13), (0, 10, 17, 15)], .methodLink RL 37 yX7_addParity]
set_option maxRecDepth 20000 in
theorem A_21_g : GoodIn lw_tbl A_21 := goodIn_of A_21 (by decide +kernel)
def A_22 : List Cond := [.instanceMethod yX7_addParity, .selects RX7 yX7_addParity yX7_addParity, .codeWith yL_addParity cL_addParity 5 (some .int) [(0, 10, 13, 13), (0, 10, 17, 15)], .methodLink RL 40 yX7_removeConstraint, .instanceMethod yX7_removeConstraint, .selects RX7 yX7_removeConstraint yX7_removeConstraint, .codeWith yL_removeConstraint cL_removeConstraint 4 (some .int) [(0, 9, 12, 25)], .methodLink RL 43 yX7_resolve, .instanceMethod yX7_resolve, .selects RX7 yX7_resolve yX7_resolve, .codeWith yL_resolve cL_resolve 6 (some .int) [(0, 12, 15, 25), (0, 12, 19, 15)], .methodLink RL 47 yX7_sum, .instanceMethod yX7_sum, .selects RX7 yX7_sum yX7_sum, .codeWith yL_sum cL_sum 5 (some .int) [(0, 10, 13, 25), (0, 10, 17, 15)], .methodLink RL 50 yX7_decide, .instanceMethod yX7_decide, .selects RX7 yX7_decide yX7_decide, .codeWith yL_decide cL_decide 4 (some .int) [(0, 9, 12, 25), (0, 9, 15, 15)], .methodLink RL 53 yX7_backtrack, .instanceMethod yX7_backtrack, .selects RX7 yX7_backtrack yX7_backtrack, .codeWith yL_backtrack cL_backtrack 4 (some .int) [(0, 9, 12, 13)], .methodLink RL 56 yX7_learn, .instanceMethod yX7_learn, .selects RX7 yX7_learn yX7_learn, .codeWith yL_learn cL_learn 3 (some .int) [(0, 8, 11, 15)], .methodLink RL 59 yX7_undo, .instanceMethod yX7_undo, .selects RX7 yX7_undo yX7_undo]
set_option maxRecDepth 20000 in
theorem A_22_g : GoodIn lw_tbl A_22 := goodIn_of A_22 (by decide +kernel)
def A_23 : List Cond := [.codeWith yL_undo cL_undo 3 (some .int) [(0, 8, 11, 15)], .methodLink RL 62 yX7_value, .instanceMethod yX7_value, .selects RX7 yX7_value yX7_value, .codeWith yL_value cL_value 4 (some .int) [(0, 9, 12, 25)], .methodLink RL 65 yX7_trailLiteral, .instanceMethod yX7_trailLiteral, .selects RX7 yX7_trailLiteral yX7_trailLiteral, .codeWith yL_trailLiteral cL_trailLiteral 4 (some .int) [(0, 9, 12, 25)], .methodLink RL 68 yX7_reason, .instanceMethod yX7_reason, .selects RX7 yX7_reason yX7_reason, .codeWith yL_reason cL_reason 4 (some .int) [(0, 9, 12, 25)], .methodLink RL 71 yX7_learnedClause, .instanceMethod yX7_learnedClause, .selects RX7 yX7_learnedClause yX7_learnedClause, .codeWith yL_learnedClause cL_learnedClause 3 (some .int) [(0, 8, 11, 15)], .methodLink RL 74 yX7_impliesClause, .instanceMethod yX7_impliesClause, .selects RX7 yX7_impliesClause yX7_impliesClause, .codeWith yL_impliesClause cL_impliesClause 5 (some .int) [(0, 17, 20, 13)], .methodLink RL 78 yX7_impliesParity, .instanceMethod yX7_impliesParity, .selects RX7 yX7_impliesParity yX7_impliesParity, .codeWith yL_impliesParity cL_impliesParity 5 (some .int) [(0, 17, 20, 13)], .methodLink RL 81 yX7_eliminatedRow, .instanceMethod yX7_eliminatedRow, .selects RX7 yX7_eliminatedRow yX7_eliminatedRow, .codeWith yL_eliminatedRow cL_eliminatedRow 4 (some .int) [(0, 9, 12, 15)], .methodLink RL 84 yX7_save]
set_option maxRecDepth 20000 in
theorem A_23_g : GoodIn lw_tbl A_23 := goodIn_of A_23 (by decide +kernel)
def A_24 : List Cond := [.instanceMethod yX7_save, .selects RX7 yX7_save yX7_save, .codeWith yL_save cL_save 4 (some .int) [(0, 9, 12, 25)], .methodLink RL 87 yX7_restore, .instanceMethod yX7_restore, .selects RX7 yX7_restore yX7_restore, .codeWith yL_restore cL_restore 4 (some .int) [(0, 9, 12, 25), (0, 9, 15, 15)], .classLink RL 8 RX7, .instantiable RX7 8, .classLink RL 91 RX8, .instantiable RX8 26, .arrayClass .long, .methodLink RL 90 yX7_init, .instanceMethod yX7_init, .methodLink RL 93 yX8_init, .instanceMethod yX8_init, .methodLink RL 94 yL_append, .static yL_append, .initialized RL, .methodLink RL 99 yX8_append, .instanceMethod yX8_append, .selects RX8 yX8_append yX8_append, .methodLink RL 100 yX8_thrown, .instanceMethod yX8_thrown, .selects RX8 yX8_thrown yX8_thrown, .methodLink RL 103 yX7_clearText, .instanceMethod yX7_clearText, .selects RX7 yX7_clearText yX7_clearText, .methodLink RL 106 yX8_clearText, .instanceMethod yX8_clearText]
set_option maxRecDepth 20000 in
theorem A_24_g : GoodIn lw_tbl A_24 := goodIn_of A_24 (by decide +kernel)
def A_25 : List Cond := [.selects RX8 yX8_clearText yX8_clearText, .methodLink RL 107 yX7_errorPosition, .instanceMethod yX7_errorPosition, .selects RX7 yX7_errorPosition yX7_errorPosition, .methodLink RL 110 yX8_errorPosition, .instanceMethod yX8_errorPosition, .selects RX8 yX8_errorPosition yX8_errorPosition, .methodLink RL 111 yL_load, .static yL_load, .methodLink RL 114 yX8_load, .instanceMethod yX8_load, .selects RX8 yX8_load yX8_load, .methodLink RL 115 yX7_constraintCount, .instanceMethod yX7_constraintCount, .selects RX7 yX7_constraintCount yX7_constraintCount, .methodLink RL 118 yX8_constraintCount, .instanceMethod yX8_constraintCount, .selects RX8 yX8_constraintCount yX8_constraintCount, .methodLink RL 119 yL_isParity, .static yL_isParity, .methodLink RL 121 yX8_isParity, .instanceMethod yX8_isParity, .selects RX8 yX8_isParity yX8_isParity, .methodLink RL 122 yL_variables, .static yL_variables, .methodLink RL 124 yX8_variables, .instanceMethod yX8_variables, .selects RX8 yX8_variables yX8_variables, .methodLink RL 125 yL_negated, .static yL_negated]
set_option maxRecDepth 20000 in
theorem A_25_g : GoodIn lw_tbl A_25 := goodIn_of A_25 (by decide +kernel)
def A_26 : List Cond := [.methodLink RL 127 yX8_negated, .instanceMethod yX8_negated, .selects RX8 yX8_negated yX8_negated, .methodLink RL 128 yL_addClause, .static yL_addClause, .methodLink RL 131 yX8_addClause, .instanceMethod yX8_addClause, .selects RX8 yX8_addClause yX8_addClause, .methodLink RL 132 yL_addParity, .static yL_addParity, .methodLink RL 134 yX8_addParity, .instanceMethod yX8_addParity, .selects RX8 yX8_addParity yX8_addParity, .methodLink RL 135 yL_removeConstraint, .static yL_removeConstraint, .methodLink RL 137 yX8_removeConstraint, .instanceMethod yX8_removeConstraint, .selects RX8 yX8_removeConstraint yX8_removeConstraint, .methodLink RL 138 yL_resolve, .static yL_resolve, .methodLink RL 141 yX8_resolve, .instanceMethod yX8_resolve, .selects RX8 yX8_resolve yX8_resolve, .methodLink RL 142 yL_sum, .static yL_sum, .methodLink RL 144 yX8_sum, .instanceMethod yX8_sum, .selects RX8 yX8_sum yX8_sum, .methodLink RL 145 yL_decide, .static yL_decide]
set_option maxRecDepth 20000 in
theorem A_26_g : GoodIn lw_tbl A_26 := goodIn_of A_26 (by decide +kernel)
def A_27 : List Cond := [.methodLink RL 147 yX8_decide, .instanceMethod yX8_decide, .selects RX8 yX8_decide yX8_decide, .methodLink RL 148 yL_backtrack, .static yL_backtrack, .methodLink RL 150 yX8_backtrack, .instanceMethod yX8_backtrack, .selects RX8 yX8_backtrack yX8_backtrack, .methodLink RL 151 yL_learn, .static yL_learn, .methodLink RL 153 yX8_learn, .instanceMethod yX8_learn, .selects RX8 yX8_learn yX8_learn, .methodLink RL 154 yL_undo, .static yL_undo, .methodLink RL 156 yX8_undo, .instanceMethod yX8_undo, .selects RX8 yX8_undo yX8_undo, .methodLink RL 157 yX7_level, .instanceMethod yX7_level, .selects RX7 yX7_level yX7_level, .methodLink RL 160 yX8_level, .instanceMethod yX8_level, .selects RX8 yX8_level yX8_level, .methodLink RL 161 yL_value, .static yL_value, .methodLink RL 163 yX8_value, .instanceMethod yX8_value, .selects RX8 yX8_value yX8_value, .methodLink RL 164 yL_trailLiteral]
set_option maxRecDepth 20000 in
theorem A_27_g : GoodIn lw_tbl A_27 := goodIn_of A_27 (by decide +kernel)
def A_28 : List Cond := [.static yL_trailLiteral, .methodLink RL 166 yX8_trailLiteral, .instanceMethod yX8_trailLiteral, .selects RX8 yX8_trailLiteral yX8_trailLiteral, .methodLink RL 167 yL_reason, .static yL_reason, .methodLink RL 169 yX8_reason, .instanceMethod yX8_reason, .selects RX8 yX8_reason yX8_reason, .methodLink RL 170 yX7_conflict, .instanceMethod yX7_conflict, .selects RX7 yX7_conflict yX7_conflict, .methodLink RL 173 yX8_conflict, .instanceMethod yX8_conflict, .selects RX8 yX8_conflict yX8_conflict, .methodLink RL 174 yL_learnedClause, .static yL_learnedClause, .methodLink RL 176 yX8_learnedClause, .instanceMethod yX8_learnedClause, .selects RX8 yX8_learnedClause yX8_learnedClause, .methodLink RL 177 yX7_modelCount, .instanceMethod yX7_modelCount, .selects RX7 yX7_modelCount yX7_modelCount, .methodLink RL 180 yX8_modelCount, .instanceMethod yX8_modelCount, .selects RX8 yX8_modelCount yX8_modelCount, .methodLink RL 181 yX7_model, .instanceMethod yX7_model, .selects RX7 yX7_model yX7_model, .methodLink RL 184 yX8_model]
set_option maxRecDepth 20000 in
theorem A_28_g : GoodIn lw_tbl A_28 := goodIn_of A_28 (by decide +kernel)
def A_29 : List Cond := [.instanceMethod yX8_model, .selects RX8 yX8_model yX8_model, .methodLink RL 185 yL_impliesClause, .static yL_impliesClause, .methodLink RL 187 yX8_impliesClause, .instanceMethod yX8_impliesClause, .selects RX8 yX8_impliesClause yX8_impliesClause, .methodLink RL 188 yL_impliesParity, .static yL_impliesParity, .methodLink RL 190 yX8_impliesParity, .instanceMethod yX8_impliesParity, .selects RX8 yX8_impliesParity yX8_impliesParity, .methodLink RL 191 yX7_core, .instanceMethod yX7_core, .selects RX7 yX7_core yX7_core, .methodLink RL 194 yX8_core, .instanceMethod yX8_core, .selects RX8 yX8_core yX8_core, .methodLink RL 195 yX7_rank, .instanceMethod yX7_rank, .selects RX7 yX7_rank yX7_rank, .methodLink RL 198 yX8_rank, .instanceMethod yX8_rank, .selects RX8 yX8_rank yX8_rank, .methodLink RL 199 yX7_isConsistent, .instanceMethod yX7_isConsistent, .selects RX7 yX7_isConsistent yX7_isConsistent, .methodLink RL 203 yX8_isConsistent, .instanceMethod yX8_isConsistent, .selects RX8 yX8_isConsistent yX8_isConsistent]
set_option maxRecDepth 20000 in
theorem A_29_g : GoodIn lw_tbl A_29 := goodIn_of A_29 (by decide +kernel)
def A_30 : List Cond := [.methodLink RL 204 yL_eliminatedRow, .static yL_eliminatedRow, .methodLink RL 206 yX8_eliminatedRow, .instanceMethod yX8_eliminatedRow, .selects RX8 yX8_eliminatedRow yX8_eliminatedRow, .methodLink RL 207 yX7_solve, .instanceMethod yX7_solve, .selects RX7 yX7_solve yX7_solve, .methodLink RL 210 yX8_solve, .instanceMethod yX8_solve, .selects RX8 yX8_solve yX8_solve, .methodLink RL 211 yL_save, .static yL_save, .methodLink RL 213 yX8_save, .instanceMethod yX8_save, .selects RX8 yX8_save yX8_save, .methodLink RL 214 yL_restore, .static yL_restore, .methodLink RL 216 yX8_restore, .instanceMethod yX8_restore, .selects RX8 yX8_restore yX8_restore]
set_option maxRecDepth 20000 in
theorem A_30_g : GoodIn lw_tbl A_30 := goodIn_of A_30 (by decide +kernel)
set_option maxRecDepth 20000 in
theorem A_31_g : GoodIn lw_tbl wsX00 := goodIn_of _ (by decide +kernel)
set_option maxRecDepth 20000 in
theorem A_32_g : GoodIn lw_tbl wsX10 := goodIn_of _ (by decide +kernel)
set_option maxRecDepth 20000 in
theorem A_33_g : GoodIn lw_tbl wsX20 := goodIn_of _ (by decide +kernel)
set_option maxRecDepth 20000 in
theorem A_34_g : GoodIn lw_tbl wsX30 := goodIn_of _ (by decide +kernel)
set_option maxRecDepth 20000 in
theorem A_35_g : GoodIn lw_tbl wsX40 := goodIn_of _ (by decide +kernel)
set_option maxRecDepth 20000 in
theorem A_36_g : GoodIn lw_tbl wsX50 := goodIn_of _ (by decide +kernel)
set_option maxRecDepth 20000 in
theorem A_37_g : GoodIn lw_tbl wsX60 := goodIn_of _ (by decide +kernel)
set_option maxRecDepth 20000 in
theorem A_38_g : GoodIn lw_tbl wsX70 := goodIn_of _ (by decide +kernel)
set_option maxRecDepth 20000 in
theorem A_39_g : GoodIn lw_tbl wsX80 := goodIn_of _ (by decide +kernel)
def A_40 : List Cond := (vx_atS RX7 61 "java/lang/IllegalArgumentException" ["java/lang/RuntimeException", "java/lang/Exception"]).filter goodWord
set_option maxRecDepth 20000 in
theorem A_40_g : GoodIn lw_tbl A_40 := goodIn_of _ (by decide +kernel)
def A_41 : List Cond := (vx_atS RX7 72 "java/lang/IllegalStateException" ["java/lang/RuntimeException", "java/lang/Exception"]).filter goodWord
set_option maxRecDepth 20000 in
theorem A_41_g : GoodIn lw_tbl A_41 := goodIn_of _ (by decide +kernel)
def A_42 : List Cond := (vx_atS RX7 168 "java/lang/IndexOutOfBoundsException" ["java/lang/RuntimeException", "java/lang/Exception"]).filter goodWord
set_option maxRecDepth 20000 in
theorem A_42_g : GoodIn lw_tbl A_42 := goodIn_of _ (by decide +kernel)
def ALL : List Cond := A_0 ++ (A_1 ++ (A_2 ++ (A_3 ++ (A_4 ++ (A_5 ++ (A_6 ++ (A_7 ++ (A_8 ++ (A_9 ++ (A_10 ++ (A_11 ++ (A_12 ++ (A_13 ++ (A_14 ++ (A_15 ++ (A_16 ++ (A_17 ++ (A_18 ++ (A_19 ++ (A_20 ++ (A_21 ++ (A_22 ++ (A_23 ++ (A_24 ++ (A_25 ++ (A_26 ++ (A_27 ++ (A_28 ++ (A_29 ++ (A_30 ++ (wsX00 ++ (wsX10 ++ (wsX20 ++ (wsX30 ++ (wsX40 ++ (wsX50 ++ (wsX60 ++ (wsX70 ++ (wsX80 ++ (A_40 ++ (A_41 ++ (A_42))))))))))))))))))))))))))))))))))))))))))
theorem A_0_in : ∀ w ∈ A_0, w ∈ ALL := fun _ h => List.mem_append_left _ h
theorem A_1_in : ∀ w ∈ A_1, w ∈ ALL := fun _ h => List.mem_append_right _ (List.mem_append_left _ h)
theorem A_2_in : ∀ w ∈ A_2, w ∈ ALL := fun _ h => List.mem_append_right _ (List.mem_append_right _ (List.mem_append_left _ h))
theorem A_3_in : ∀ w ∈ A_3, w ∈ ALL := fun _ h => List.mem_append_right _ (List.mem_append_right _ (List.mem_append_right _ (List.mem_append_left _ h)))
theorem A_4_in : ∀ w ∈ A_4, w ∈ ALL := fun _ h => List.mem_append_right _ (List.mem_append_right _ (List.mem_append_right _ (List.mem_append_right _ (List.mem_append_left _ h))))
theorem A_5_in : ∀ w ∈ A_5, w ∈ ALL := fun _ h => List.mem_append_right _ (List.mem_append_right _ (List.mem_append_right _ (List.mem_append_right _ (List.mem_append_right _ (List.mem_append_left _ h)))))
theorem A_6_in : ∀ w ∈ A_6, w ∈ ALL := fun _ h => List.mem_append_right _ (List.mem_append_right _ (List.mem_append_right _ (List.mem_append_right _ (List.mem_append_right _ (List.mem_append_right _ (List.mem_append_left _ h))))))
theorem A_7_in : ∀ w ∈ A_7, w ∈ ALL := fun _ h => List.mem_append_right _ (List.mem_append_right _ (List.mem_append_right _ (List.mem_append_right _ (List.mem_append_right _ (List.mem_append_right _ (List.mem_append_right _ (List.mem_append_left _ h)))))))
theorem A_8_in : ∀ w ∈ A_8, w ∈ ALL := fun _ h => List.mem_append_right _ (List.mem_append_right _ (List.mem_append_right _ (List.mem_append_right _ (List.mem_append_right _ (List.mem_append_right _ (List.mem_append_right _ (List.mem_append_right _ (List.mem_append_left _ h))))))))
theorem A_9_in : ∀ w ∈ A_9, w ∈ ALL := fun _ h => List.mem_append_right _ (List.mem_append_right _ (List.mem_append_right _ (List.mem_append_right _ (List.mem_append_right _ (List.mem_append_right _ (List.mem_append_right _ (List.mem_append_right _ (List.mem_append_right _ (List.mem_append_left _ h)))))))))
theorem A_10_in : ∀ w ∈ A_10, w ∈ ALL := fun _ h => List.mem_append_right _ (List.mem_append_right _ (List.mem_append_right _ (List.mem_append_right _ (List.mem_append_right _ (List.mem_append_right _ (List.mem_append_right _ (List.mem_append_right _ (List.mem_append_right _ (List.mem_append_right _ (List.mem_append_left _ h))))))))))
theorem A_11_in : ∀ w ∈ A_11, w ∈ ALL := fun _ h => List.mem_append_right _ (List.mem_append_right _ (List.mem_append_right _ (List.mem_append_right _ (List.mem_append_right _ (List.mem_append_right _ (List.mem_append_right _ (List.mem_append_right _ (List.mem_append_right _ (List.mem_append_right _ (List.mem_append_right _ (List.mem_append_left _ h)))))))))))
theorem A_12_in : ∀ w ∈ A_12, w ∈ ALL := fun _ h => List.mem_append_right _ (List.mem_append_right _ (List.mem_append_right _ (List.mem_append_right _ (List.mem_append_right _ (List.mem_append_right _ (List.mem_append_right _ (List.mem_append_right _ (List.mem_append_right _ (List.mem_append_right _ (List.mem_append_right _ (List.mem_append_right _ (List.mem_append_left _ h))))))))))))
theorem A_13_in : ∀ w ∈ A_13, w ∈ ALL := fun _ h => List.mem_append_right _ (List.mem_append_right _ (List.mem_append_right _ (List.mem_append_right _ (List.mem_append_right _ (List.mem_append_right _ (List.mem_append_right _ (List.mem_append_right _ (List.mem_append_right _ (List.mem_append_right _ (List.mem_append_right _ (List.mem_append_right _ (List.mem_append_right _ (List.mem_append_left _ h)))))))))))))
theorem A_14_in : ∀ w ∈ A_14, w ∈ ALL := fun _ h => List.mem_append_right _ (List.mem_append_right _ (List.mem_append_right _ (List.mem_append_right _ (List.mem_append_right _ (List.mem_append_right _ (List.mem_append_right _ (List.mem_append_right _ (List.mem_append_right _ (List.mem_append_right _ (List.mem_append_right _ (List.mem_append_right _ (List.mem_append_right _ (List.mem_append_right _ (List.mem_append_left _ h))))))))))))))
theorem A_15_in : ∀ w ∈ A_15, w ∈ ALL := fun _ h => List.mem_append_right _ (List.mem_append_right _ (List.mem_append_right _ (List.mem_append_right _ (List.mem_append_right _ (List.mem_append_right _ (List.mem_append_right _ (List.mem_append_right _ (List.mem_append_right _ (List.mem_append_right _ (List.mem_append_right _ (List.mem_append_right _ (List.mem_append_right _ (List.mem_append_right _ (List.mem_append_right _ (List.mem_append_left _ h)))))))))))))))
theorem A_16_in : ∀ w ∈ A_16, w ∈ ALL := fun _ h => List.mem_append_right _ (List.mem_append_right _ (List.mem_append_right _ (List.mem_append_right _ (List.mem_append_right _ (List.mem_append_right _ (List.mem_append_right _ (List.mem_append_right _ (List.mem_append_right _ (List.mem_append_right _ (List.mem_append_right _ (List.mem_append_right _ (List.mem_append_right _ (List.mem_append_right _ (List.mem_append_right _ (List.mem_append_right _ (List.mem_append_left _ h))))))))))))))))
theorem A_17_in : ∀ w ∈ A_17, w ∈ ALL := fun _ h => List.mem_append_right _ (List.mem_append_right _ (List.mem_append_right _ (List.mem_append_right _ (List.mem_append_right _ (List.mem_append_right _ (List.mem_append_right _ (List.mem_append_right _ (List.mem_append_right _ (List.mem_append_right _ (List.mem_append_right _ (List.mem_append_right _ (List.mem_append_right _ (List.mem_append_right _ (List.mem_append_right _ (List.mem_append_right _ (List.mem_append_right _ (List.mem_append_left _ h)))))))))))))))))
theorem A_18_in : ∀ w ∈ A_18, w ∈ ALL := fun _ h => List.mem_append_right _ (List.mem_append_right _ (List.mem_append_right _ (List.mem_append_right _ (List.mem_append_right _ (List.mem_append_right _ (List.mem_append_right _ (List.mem_append_right _ (List.mem_append_right _ (List.mem_append_right _ (List.mem_append_right _ (List.mem_append_right _ (List.mem_append_right _ (List.mem_append_right _ (List.mem_append_right _ (List.mem_append_right _ (List.mem_append_right _ (List.mem_append_right _ (List.mem_append_left _ h))))))))))))))))))
theorem A_19_in : ∀ w ∈ A_19, w ∈ ALL := fun _ h => List.mem_append_right _ (List.mem_append_right _ (List.mem_append_right _ (List.mem_append_right _ (List.mem_append_right _ (List.mem_append_right _ (List.mem_append_right _ (List.mem_append_right _ (List.mem_append_right _ (List.mem_append_right _ (List.mem_append_right _ (List.mem_append_right _ (List.mem_append_right _ (List.mem_append_right _ (List.mem_append_right _ (List.mem_append_right _ (List.mem_append_right _ (List.mem_append_right _ (List.mem_append_right _ (List.mem_append_left _ h)))))))))))))))))))
theorem A_20_in : ∀ w ∈ A_20, w ∈ ALL := fun _ h => List.mem_append_right _ (List.mem_append_right _ (List.mem_append_right _ (List.mem_append_right _ (List.mem_append_right _ (List.mem_append_right _ (List.mem_append_right _ (List.mem_append_right _ (List.mem_append_right _ (List.mem_append_right _ (List.mem_append_right _ (List.mem_append_right _ (List.mem_append_right _ (List.mem_append_right _ (List.mem_append_right _ (List.mem_append_right _ (List.mem_append_right _ (List.mem_append_right _ (List.mem_append_right _ (List.mem_append_right _ (List.mem_append_left _ h))))))))))))))))))))
theorem A_21_in : ∀ w ∈ A_21, w ∈ ALL := fun _ h => List.mem_append_right _ (List.mem_append_right _ (List.mem_append_right _ (List.mem_append_right _ (List.mem_append_right _ (List.mem_append_right _ (List.mem_append_right _ (List.mem_append_right _ (List.mem_append_right _ (List.mem_append_right _ (List.mem_append_right _ (List.mem_append_right _ (List.mem_append_right _ (List.mem_append_right _ (List.mem_append_right _ (List.mem_append_right _ (List.mem_append_right _ (List.mem_append_right _ (List.mem_append_right _ (List.mem_append_right _ (List.mem_append_right _ (List.mem_append_left _ h)))))))))))))))))))))
theorem A_22_in : ∀ w ∈ A_22, w ∈ ALL := fun _ h => List.mem_append_right _ (List.mem_append_right _ (List.mem_append_right _ (List.mem_append_right _ (List.mem_append_right _ (List.mem_append_right _ (List.mem_append_right _ (List.mem_append_right _ (List.mem_append_right _ (List.mem_append_right _ (List.mem_append_right _ (List.mem_append_right _ (List.mem_append_right _ (List.mem_append_right _ (List.mem_append_right _ (List.mem_append_right _ (List.mem_append_right _ (List.mem_append_right _ (List.mem_append_right _ (List.mem_append_right _ (List.mem_append_right _ (List.mem_append_right _ (List.mem_append_left _ h))))))))))))))))))))))
theorem A_23_in : ∀ w ∈ A_23, w ∈ ALL := fun _ h => List.mem_append_right _ (List.mem_append_right _ (List.mem_append_right _ (List.mem_append_right _ (List.mem_append_right _ (List.mem_append_right _ (List.mem_append_right _ (List.mem_append_right _ (List.mem_append_right _ (List.mem_append_right _ (List.mem_append_right _ (List.mem_append_right _ (List.mem_append_right _ (List.mem_append_right _ (List.mem_append_right _ (List.mem_append_right _ (List.mem_append_right _ (List.mem_append_right _ (List.mem_append_right _ (List.mem_append_right _ (List.mem_append_right _ (List.mem_append_right _ (List.mem_append_right _ (List.mem_append_left _ h)))))))))))))))))))))))
theorem A_24_in : ∀ w ∈ A_24, w ∈ ALL := fun _ h => List.mem_append_right _ (List.mem_append_right _ (List.mem_append_right _ (List.mem_append_right _ (List.mem_append_right _ (List.mem_append_right _ (List.mem_append_right _ (List.mem_append_right _ (List.mem_append_right _ (List.mem_append_right _ (List.mem_append_right _ (List.mem_append_right _ (List.mem_append_right _ (List.mem_append_right _ (List.mem_append_right _ (List.mem_append_right _ (List.mem_append_right _ (List.mem_append_right _ (List.mem_append_right _ (List.mem_append_right _ (List.mem_append_right _ (List.mem_append_right _ (List.mem_append_right _ (List.mem_append_right _ (List.mem_append_left _ h))))))))))))))))))))))))
theorem A_25_in : ∀ w ∈ A_25, w ∈ ALL := fun _ h => List.mem_append_right _ (List.mem_append_right _ (List.mem_append_right _ (List.mem_append_right _ (List.mem_append_right _ (List.mem_append_right _ (List.mem_append_right _ (List.mem_append_right _ (List.mem_append_right _ (List.mem_append_right _ (List.mem_append_right _ (List.mem_append_right _ (List.mem_append_right _ (List.mem_append_right _ (List.mem_append_right _ (List.mem_append_right _ (List.mem_append_right _ (List.mem_append_right _ (List.mem_append_right _ (List.mem_append_right _ (List.mem_append_right _ (List.mem_append_right _ (List.mem_append_right _ (List.mem_append_right _ (List.mem_append_right _ (List.mem_append_left _ h)))))))))))))))))))))))))
theorem A_26_in : ∀ w ∈ A_26, w ∈ ALL := fun _ h => List.mem_append_right _ (List.mem_append_right _ (List.mem_append_right _ (List.mem_append_right _ (List.mem_append_right _ (List.mem_append_right _ (List.mem_append_right _ (List.mem_append_right _ (List.mem_append_right _ (List.mem_append_right _ (List.mem_append_right _ (List.mem_append_right _ (List.mem_append_right _ (List.mem_append_right _ (List.mem_append_right _ (List.mem_append_right _ (List.mem_append_right _ (List.mem_append_right _ (List.mem_append_right _ (List.mem_append_right _ (List.mem_append_right _ (List.mem_append_right _ (List.mem_append_right _ (List.mem_append_right _ (List.mem_append_right _ (List.mem_append_right _ (List.mem_append_left _ h))))))))))))))))))))))))))
theorem A_27_in : ∀ w ∈ A_27, w ∈ ALL := fun _ h => List.mem_append_right _ (List.mem_append_right _ (List.mem_append_right _ (List.mem_append_right _ (List.mem_append_right _ (List.mem_append_right _ (List.mem_append_right _ (List.mem_append_right _ (List.mem_append_right _ (List.mem_append_right _ (List.mem_append_right _ (List.mem_append_right _ (List.mem_append_right _ (List.mem_append_right _ (List.mem_append_right _ (List.mem_append_right _ (List.mem_append_right _ (List.mem_append_right _ (List.mem_append_right _ (List.mem_append_right _ (List.mem_append_right _ (List.mem_append_right _ (List.mem_append_right _ (List.mem_append_right _ (List.mem_append_right _ (List.mem_append_right _ (List.mem_append_right _ (List.mem_append_left _ h)))))))))))))))))))))))))))
theorem A_28_in : ∀ w ∈ A_28, w ∈ ALL := fun _ h => List.mem_append_right _ (List.mem_append_right _ (List.mem_append_right _ (List.mem_append_right _ (List.mem_append_right _ (List.mem_append_right _ (List.mem_append_right _ (List.mem_append_right _ (List.mem_append_right _ (List.mem_append_right _ (List.mem_append_right _ (List.mem_append_right _ (List.mem_append_right _ (List.mem_append_right _ (List.mem_append_right _ (List.mem_append_right _ (List.mem_append_right _ (List.mem_append_right _ (List.mem_append_right _ (List.mem_append_right _ (List.mem_append_right _ (List.mem_append_right _ (List.mem_append_right _ (List.mem_append_right _ (List.mem_append_right _ (List.mem_append_right _ (List.mem_append_right _ (List.mem_append_right _ (List.mem_append_left _ h))))))))))))))))))))))))))))
theorem A_29_in : ∀ w ∈ A_29, w ∈ ALL := fun _ h => List.mem_append_right _ (List.mem_append_right _ (List.mem_append_right _ (List.mem_append_right _ (List.mem_append_right _ (List.mem_append_right _ (List.mem_append_right _ (List.mem_append_right _ (List.mem_append_right _ (List.mem_append_right _ (List.mem_append_right _ (List.mem_append_right _ (List.mem_append_right _ (List.mem_append_right _ (List.mem_append_right _ (List.mem_append_right _ (List.mem_append_right _ (List.mem_append_right _ (List.mem_append_right _ (List.mem_append_right _ (List.mem_append_right _ (List.mem_append_right _ (List.mem_append_right _ (List.mem_append_right _ (List.mem_append_right _ (List.mem_append_right _ (List.mem_append_right _ (List.mem_append_right _ (List.mem_append_right _ (List.mem_append_left _ h)))))))))))))))))))))))))))))
theorem A_30_in : ∀ w ∈ A_30, w ∈ ALL := fun _ h => List.mem_append_right _ (List.mem_append_right _ (List.mem_append_right _ (List.mem_append_right _ (List.mem_append_right _ (List.mem_append_right _ (List.mem_append_right _ (List.mem_append_right _ (List.mem_append_right _ (List.mem_append_right _ (List.mem_append_right _ (List.mem_append_right _ (List.mem_append_right _ (List.mem_append_right _ (List.mem_append_right _ (List.mem_append_right _ (List.mem_append_right _ (List.mem_append_right _ (List.mem_append_right _ (List.mem_append_right _ (List.mem_append_right _ (List.mem_append_right _ (List.mem_append_right _ (List.mem_append_right _ (List.mem_append_right _ (List.mem_append_right _ (List.mem_append_right _ (List.mem_append_right _ (List.mem_append_right _ (List.mem_append_right _ (List.mem_append_left _ h))))))))))))))))))))))))))))))
theorem A_31_in : ∀ w ∈ wsX00, w ∈ ALL := fun _ h => List.mem_append_right _ (List.mem_append_right _ (List.mem_append_right _ (List.mem_append_right _ (List.mem_append_right _ (List.mem_append_right _ (List.mem_append_right _ (List.mem_append_right _ (List.mem_append_right _ (List.mem_append_right _ (List.mem_append_right _ (List.mem_append_right _ (List.mem_append_right _ (List.mem_append_right _ (List.mem_append_right _ (List.mem_append_right _ (List.mem_append_right _ (List.mem_append_right _ (List.mem_append_right _ (List.mem_append_right _ (List.mem_append_right _ (List.mem_append_right _ (List.mem_append_right _ (List.mem_append_right _ (List.mem_append_right _ (List.mem_append_right _ (List.mem_append_right _ (List.mem_append_right _ (List.mem_append_right _ (List.mem_append_right _ (List.mem_append_right _ (List.mem_append_left _ h)))))))))))))))))))))))))))))))
theorem A_32_in : ∀ w ∈ wsX10, w ∈ ALL := fun _ h => List.mem_append_right _ (List.mem_append_right _ (List.mem_append_right _ (List.mem_append_right _ (List.mem_append_right _ (List.mem_append_right _ (List.mem_append_right _ (List.mem_append_right _ (List.mem_append_right _ (List.mem_append_right _ (List.mem_append_right _ (List.mem_append_right _ (List.mem_append_right _ (List.mem_append_right _ (List.mem_append_right _ (List.mem_append_right _ (List.mem_append_right _ (List.mem_append_right _ (List.mem_append_right _ (List.mem_append_right _ (List.mem_append_right _ (List.mem_append_right _ (List.mem_append_right _ (List.mem_append_right _ (List.mem_append_right _ (List.mem_append_right _ (List.mem_append_right _ (List.mem_append_right _ (List.mem_append_right _ (List.mem_append_right _ (List.mem_append_right _ (List.mem_append_right _ (List.mem_append_left _ h))))))))))))))))))))))))))))))))
theorem A_33_in : ∀ w ∈ wsX20, w ∈ ALL := fun _ h => List.mem_append_right _ (List.mem_append_right _ (List.mem_append_right _ (List.mem_append_right _ (List.mem_append_right _ (List.mem_append_right _ (List.mem_append_right _ (List.mem_append_right _ (List.mem_append_right _ (List.mem_append_right _ (List.mem_append_right _ (List.mem_append_right _ (List.mem_append_right _ (List.mem_append_right _ (List.mem_append_right _ (List.mem_append_right _ (List.mem_append_right _ (List.mem_append_right _ (List.mem_append_right _ (List.mem_append_right _ (List.mem_append_right _ (List.mem_append_right _ (List.mem_append_right _ (List.mem_append_right _ (List.mem_append_right _ (List.mem_append_right _ (List.mem_append_right _ (List.mem_append_right _ (List.mem_append_right _ (List.mem_append_right _ (List.mem_append_right _ (List.mem_append_right _ (List.mem_append_right _ (List.mem_append_left _ h)))))))))))))))))))))))))))))))))
theorem A_34_in : ∀ w ∈ wsX30, w ∈ ALL := fun _ h => List.mem_append_right _ (List.mem_append_right _ (List.mem_append_right _ (List.mem_append_right _ (List.mem_append_right _ (List.mem_append_right _ (List.mem_append_right _ (List.mem_append_right _ (List.mem_append_right _ (List.mem_append_right _ (List.mem_append_right _ (List.mem_append_right _ (List.mem_append_right _ (List.mem_append_right _ (List.mem_append_right _ (List.mem_append_right _ (List.mem_append_right _ (List.mem_append_right _ (List.mem_append_right _ (List.mem_append_right _ (List.mem_append_right _ (List.mem_append_right _ (List.mem_append_right _ (List.mem_append_right _ (List.mem_append_right _ (List.mem_append_right _ (List.mem_append_right _ (List.mem_append_right _ (List.mem_append_right _ (List.mem_append_right _ (List.mem_append_right _ (List.mem_append_right _ (List.mem_append_right _ (List.mem_append_right _ (List.mem_append_left _ h))))))))))))))))))))))))))))))))))
theorem A_35_in : ∀ w ∈ wsX40, w ∈ ALL := fun _ h => List.mem_append_right _ (List.mem_append_right _ (List.mem_append_right _ (List.mem_append_right _ (List.mem_append_right _ (List.mem_append_right _ (List.mem_append_right _ (List.mem_append_right _ (List.mem_append_right _ (List.mem_append_right _ (List.mem_append_right _ (List.mem_append_right _ (List.mem_append_right _ (List.mem_append_right _ (List.mem_append_right _ (List.mem_append_right _ (List.mem_append_right _ (List.mem_append_right _ (List.mem_append_right _ (List.mem_append_right _ (List.mem_append_right _ (List.mem_append_right _ (List.mem_append_right _ (List.mem_append_right _ (List.mem_append_right _ (List.mem_append_right _ (List.mem_append_right _ (List.mem_append_right _ (List.mem_append_right _ (List.mem_append_right _ (List.mem_append_right _ (List.mem_append_right _ (List.mem_append_right _ (List.mem_append_right _ (List.mem_append_right _ (List.mem_append_left _ h)))))))))))))))))))))))))))))))))))
theorem A_36_in : ∀ w ∈ wsX50, w ∈ ALL := fun _ h => List.mem_append_right _ (List.mem_append_right _ (List.mem_append_right _ (List.mem_append_right _ (List.mem_append_right _ (List.mem_append_right _ (List.mem_append_right _ (List.mem_append_right _ (List.mem_append_right _ (List.mem_append_right _ (List.mem_append_right _ (List.mem_append_right _ (List.mem_append_right _ (List.mem_append_right _ (List.mem_append_right _ (List.mem_append_right _ (List.mem_append_right _ (List.mem_append_right _ (List.mem_append_right _ (List.mem_append_right _ (List.mem_append_right _ (List.mem_append_right _ (List.mem_append_right _ (List.mem_append_right _ (List.mem_append_right _ (List.mem_append_right _ (List.mem_append_right _ (List.mem_append_right _ (List.mem_append_right _ (List.mem_append_right _ (List.mem_append_right _ (List.mem_append_right _ (List.mem_append_right _ (List.mem_append_right _ (List.mem_append_right _ (List.mem_append_right _ (List.mem_append_left _ h))))))))))))))))))))))))))))))))))))
theorem A_37_in : ∀ w ∈ wsX60, w ∈ ALL := fun _ h => List.mem_append_right _ (List.mem_append_right _ (List.mem_append_right _ (List.mem_append_right _ (List.mem_append_right _ (List.mem_append_right _ (List.mem_append_right _ (List.mem_append_right _ (List.mem_append_right _ (List.mem_append_right _ (List.mem_append_right _ (List.mem_append_right _ (List.mem_append_right _ (List.mem_append_right _ (List.mem_append_right _ (List.mem_append_right _ (List.mem_append_right _ (List.mem_append_right _ (List.mem_append_right _ (List.mem_append_right _ (List.mem_append_right _ (List.mem_append_right _ (List.mem_append_right _ (List.mem_append_right _ (List.mem_append_right _ (List.mem_append_right _ (List.mem_append_right _ (List.mem_append_right _ (List.mem_append_right _ (List.mem_append_right _ (List.mem_append_right _ (List.mem_append_right _ (List.mem_append_right _ (List.mem_append_right _ (List.mem_append_right _ (List.mem_append_right _ (List.mem_append_right _ (List.mem_append_left _ h)))))))))))))))))))))))))))))))))))))
theorem A_38_in : ∀ w ∈ wsX70, w ∈ ALL := fun _ h => List.mem_append_right _ (List.mem_append_right _ (List.mem_append_right _ (List.mem_append_right _ (List.mem_append_right _ (List.mem_append_right _ (List.mem_append_right _ (List.mem_append_right _ (List.mem_append_right _ (List.mem_append_right _ (List.mem_append_right _ (List.mem_append_right _ (List.mem_append_right _ (List.mem_append_right _ (List.mem_append_right _ (List.mem_append_right _ (List.mem_append_right _ (List.mem_append_right _ (List.mem_append_right _ (List.mem_append_right _ (List.mem_append_right _ (List.mem_append_right _ (List.mem_append_right _ (List.mem_append_right _ (List.mem_append_right _ (List.mem_append_right _ (List.mem_append_right _ (List.mem_append_right _ (List.mem_append_right _ (List.mem_append_right _ (List.mem_append_right _ (List.mem_append_right _ (List.mem_append_right _ (List.mem_append_right _ (List.mem_append_right _ (List.mem_append_right _ (List.mem_append_right _ (List.mem_append_right _ (List.mem_append_left _ h))))))))))))))))))))))))))))))))))))))
theorem A_39_in : ∀ w ∈ wsX80, w ∈ ALL := fun _ h => List.mem_append_right _ (List.mem_append_right _ (List.mem_append_right _ (List.mem_append_right _ (List.mem_append_right _ (List.mem_append_right _ (List.mem_append_right _ (List.mem_append_right _ (List.mem_append_right _ (List.mem_append_right _ (List.mem_append_right _ (List.mem_append_right _ (List.mem_append_right _ (List.mem_append_right _ (List.mem_append_right _ (List.mem_append_right _ (List.mem_append_right _ (List.mem_append_right _ (List.mem_append_right _ (List.mem_append_right _ (List.mem_append_right _ (List.mem_append_right _ (List.mem_append_right _ (List.mem_append_right _ (List.mem_append_right _ (List.mem_append_right _ (List.mem_append_right _ (List.mem_append_right _ (List.mem_append_right _ (List.mem_append_right _ (List.mem_append_right _ (List.mem_append_right _ (List.mem_append_right _ (List.mem_append_right _ (List.mem_append_right _ (List.mem_append_right _ (List.mem_append_right _ (List.mem_append_right _ (List.mem_append_right _ (List.mem_append_left _ h)))))))))))))))))))))))))))))))))))))))
theorem A_40_in : ∀ w ∈ A_40, w ∈ ALL := fun _ h => List.mem_append_right _ (List.mem_append_right _ (List.mem_append_right _ (List.mem_append_right _ (List.mem_append_right _ (List.mem_append_right _ (List.mem_append_right _ (List.mem_append_right _ (List.mem_append_right _ (List.mem_append_right _ (List.mem_append_right _ (List.mem_append_right _ (List.mem_append_right _ (List.mem_append_right _ (List.mem_append_right _ (List.mem_append_right _ (List.mem_append_right _ (List.mem_append_right _ (List.mem_append_right _ (List.mem_append_right _ (List.mem_append_right _ (List.mem_append_right _ (List.mem_append_right _ (List.mem_append_right _ (List.mem_append_right _ (List.mem_append_right _ (List.mem_append_right _ (List.mem_append_right _ (List.mem_append_right _ (List.mem_append_right _ (List.mem_append_right _ (List.mem_append_right _ (List.mem_append_right _ (List.mem_append_right _ (List.mem_append_right _ (List.mem_append_right _ (List.mem_append_right _ (List.mem_append_right _ (List.mem_append_right _ (List.mem_append_right _ (List.mem_append_left _ h))))))))))))))))))))))))))))))))))))))))
theorem A_41_in : ∀ w ∈ A_41, w ∈ ALL := fun _ h => List.mem_append_right _ (List.mem_append_right _ (List.mem_append_right _ (List.mem_append_right _ (List.mem_append_right _ (List.mem_append_right _ (List.mem_append_right _ (List.mem_append_right _ (List.mem_append_right _ (List.mem_append_right _ (List.mem_append_right _ (List.mem_append_right _ (List.mem_append_right _ (List.mem_append_right _ (List.mem_append_right _ (List.mem_append_right _ (List.mem_append_right _ (List.mem_append_right _ (List.mem_append_right _ (List.mem_append_right _ (List.mem_append_right _ (List.mem_append_right _ (List.mem_append_right _ (List.mem_append_right _ (List.mem_append_right _ (List.mem_append_right _ (List.mem_append_right _ (List.mem_append_right _ (List.mem_append_right _ (List.mem_append_right _ (List.mem_append_right _ (List.mem_append_right _ (List.mem_append_right _ (List.mem_append_right _ (List.mem_append_right _ (List.mem_append_right _ (List.mem_append_right _ (List.mem_append_right _ (List.mem_append_right _ (List.mem_append_right _ (List.mem_append_right _ (List.mem_append_left _ h)))))))))))))))))))))))))))))))))))))))))
theorem A_42_in : ∀ w ∈ A_42, w ∈ ALL := fun _ h => List.mem_append_right _ (List.mem_append_right _ (List.mem_append_right _ (List.mem_append_right _ (List.mem_append_right _ (List.mem_append_right _ (List.mem_append_right _ (List.mem_append_right _ (List.mem_append_right _ (List.mem_append_right _ (List.mem_append_right _ (List.mem_append_right _ (List.mem_append_right _ (List.mem_append_right _ (List.mem_append_right _ (List.mem_append_right _ (List.mem_append_right _ (List.mem_append_right _ (List.mem_append_right _ (List.mem_append_right _ (List.mem_append_right _ (List.mem_append_right _ (List.mem_append_right _ (List.mem_append_right _ (List.mem_append_right _ (List.mem_append_right _ (List.mem_append_right _ (List.mem_append_right _ (List.mem_append_right _ (List.mem_append_right _ (List.mem_append_right _ (List.mem_append_right _ (List.mem_append_right _ (List.mem_append_right _ (List.mem_append_right _ (List.mem_append_right _ (List.mem_append_right _ (List.mem_append_right _ (List.mem_append_right _ (List.mem_append_right _ (List.mem_append_right _ (List.mem_append_right _ (h))))))))))))))))))))))))))))))))))))))))))
theorem ALL_g : GoodIn lw_tbl ALL := goodIn_app A_0_g (goodIn_app A_1_g (goodIn_app A_2_g (goodIn_app A_3_g (goodIn_app A_4_g (goodIn_app A_5_g (goodIn_app A_6_g (goodIn_app A_7_g (goodIn_app A_8_g (goodIn_app A_9_g (goodIn_app A_10_g (goodIn_app A_11_g (goodIn_app A_12_g (goodIn_app A_13_g (goodIn_app A_14_g (goodIn_app A_15_g (goodIn_app A_16_g (goodIn_app A_17_g (goodIn_app A_18_g (goodIn_app A_19_g (goodIn_app A_20_g (goodIn_app A_21_g (goodIn_app A_22_g (goodIn_app A_23_g (goodIn_app A_24_g (goodIn_app A_25_g (goodIn_app A_26_g (goodIn_app A_27_g (goodIn_app A_28_g (goodIn_app A_29_g (goodIn_app A_30_g (goodIn_app A_31_g (goodIn_app A_32_g (goodIn_app A_33_g (goodIn_app A_34_g (goodIn_app A_35_g (goodIn_app A_36_g (goodIn_app A_37_g (goodIn_app A_38_g (goodIn_app A_39_g (goodIn_app A_40_g (goodIn_app A_41_g (A_42_g))))))))))))))))))))))))))))))))))))))))))
theorem m_0 : (Cond.code yX0_init cX0_init 1 none) ∈ ALL := A_0_in _ (List.mem_of_getElem? (i := 0) rfl)
theorem m_1 : (Cond.methodLink RX0 3 objectInit) ∈ ALL := A_0_in _ (List.mem_of_getElem? (i := 1) rfl)
theorem m_2 : (Cond.instanceMethod objectInit) ∈ ALL := A_0_in _ (List.mem_of_getElem? (i := 2) rfl)
theorem m_3 : (Cond.code objectInit ⟨#[0xb1]⟩ 1 none) ∈ ALL := A_0_in _ (List.mem_of_getElem? (i := 3) rfl)
theorem m_4 : (Cond.arrayClass .int) ∈ ALL := A_0_in _ (List.mem_of_getElem? (i := 4) rfl)
theorem m_5 : (Cond.fieldLink RX0 9 "CnfXorSolver$Elimination" "rowOfPivot" "[I") ∈ ALL := A_0_in _ (List.mem_of_getElem? (i := 5) rfl)
theorem m_6 : (Cond.fieldLink RX0 15 "CnfXorSolver$Elimination" "rowCount" "I") ∈ ALL := A_0_in _ (List.mem_of_getElem? (i := 6) rfl)
theorem m_7 : (Cond.fieldLink RX0 19 "CnfXorSolver$Elimination" "consistent" "Z") ∈ ALL := A_0_in _ (List.mem_of_getElem? (i := 7) rfl)
theorem m_8 : (Cond.code yX1_has cX1_has 2 (some .boolean)) ∈ ALL := A_0_in _ (List.mem_of_getElem? (i := 8) rfl)
theorem m_9 : (Cond.fieldLink RX1 15 "CnfXorSolver$Formula" "count" "I") ∈ ALL := A_0_in _ (List.mem_of_getElem? (i := 9) rfl)
theorem m_10 : (Cond.code yX1_codeAt cX1_codeAt 2 (some .int)) ∈ ALL := A_0_in _ (List.mem_of_getElem? (i := 10) rfl)
theorem m_11 : (Cond.fieldLink RX1 9 "CnfXorSolver$Formula" "codes" "[I") ∈ ALL := A_0_in _ (List.mem_of_getElem? (i := 11) rfl)
theorem m_12 : (Cond.methodLink RX1 19 yX1_has) ∈ ALL := A_0_in _ (List.mem_of_getElem? (i := 12) rfl)
theorem m_13 : (Cond.instanceMethod yX1_has) ∈ ALL := A_0_in _ (List.mem_of_getElem? (i := 13) rfl)
theorem m_14 : (Cond.selects RX1 yX1_has yX1_has) ∈ ALL := A_0_in _ (List.mem_of_getElem? (i := 14) rfl)
theorem m_15 : (Cond.initialized RX1) ∈ ALL := A_0_in _ (List.mem_of_getElem? (i := 15) rfl)
theorem m_16 : (Cond.code yX7_isParityCode cX7_isParityCode 1 (some .boolean)) ∈ ALL := A_0_in _ (List.mem_of_getElem? (i := 16) rfl)
theorem m_17 : (Cond.constant RX7 321 (65536)) ∈ ALL := A_0_in _ (List.mem_of_getElem? (i := 17) rfl)
theorem m_18 : (Cond.code yX7_contains cX7_contains 2 (some .boolean)) ∈ ALL := A_0_in _ (List.mem_of_getElem? (i := 18) rfl)
theorem m_19 : (Cond.code yX0_reduced cX0_reduced 4 (some .int)) ∈ ALL := A_0_in _ (List.mem_of_getElem? (i := 19) rfl)
theorem m_20 : (Cond.static yX7_contains) ∈ ALL := A_0_in _ (List.mem_of_getElem? (i := 20) rfl)
theorem m_21 : (Cond.initialized RX7) ∈ ALL := A_0_in _ (List.mem_of_getElem? (i := 21) rfl)
theorem m_22 : (Cond.code yX7_firstPart cX7_firstPart 1 (some .int)) ∈ ALL := A_0_in _ (List.mem_of_getElem? (i := 22) rfl)
theorem m_23 : (Cond.code yX7_smallestVariable cX7_smallestVariable 2 (some .int)) ∈ ALL := A_0_in _ (List.mem_of_getElem? (i := 23) rfl)
theorem m_24 : (Cond.methodLink RX7 317 yX7_contains) ∈ ALL := A_0_in _ (List.mem_of_getElem? (i := 24) rfl)
theorem m_25 : (Cond.code yX7_isVariable cX7_isVariable 1 (some .boolean)) ∈ ALL := A_0_in _ (List.mem_of_getElem? (i := 25) rfl)
theorem m_26 : (Cond.code yX0_insert cX0_insert 4 none) ∈ ALL := A_0_in _ (List.mem_of_getElem? (i := 26) rfl)
theorem m_27 : (Cond.static yX7_firstPart) ∈ ALL := A_0_in _ (List.mem_of_getElem? (i := 27) rfl)
theorem m_28 : (Cond.static yX7_smallestVariable) ∈ ALL := A_0_in _ (List.mem_of_getElem? (i := 28) rfl)
theorem m_29 : (Cond.static yX7_isVariable) ∈ ALL := A_0_in _ (List.mem_of_getElem? (i := 29) rfl)
theorem m_30 : (Cond.constant RX0 36 (-65537)) ∈ ALL := A_1_in _ (List.mem_of_getElem? (i := 0) rfl)
theorem m_31 : (Cond.methodLink RX0 28 yX1_codeAt) ∈ ALL := A_1_in _ (List.mem_of_getElem? (i := 1) rfl)
theorem m_32 : (Cond.instanceMethod yX1_codeAt) ∈ ALL := A_1_in _ (List.mem_of_getElem? (i := 2) rfl)
theorem m_33 : (Cond.selects RX1 yX1_codeAt yX1_codeAt) ∈ ALL := A_1_in _ (List.mem_of_getElem? (i := 3) rfl)
theorem m_34 : (Cond.static yX7_isParityCode) ∈ ALL := A_1_in _ (List.mem_of_getElem? (i := 4) rfl)
theorem m_35 : (Cond.methodLink RX0 37 yX0_reduced) ∈ ALL := A_1_in _ (List.mem_of_getElem? (i := 5) rfl)
theorem m_36 : (Cond.instanceMethod yX0_reduced) ∈ ALL := A_1_in _ (List.mem_of_getElem? (i := 6) rfl)
theorem m_37 : (Cond.selects RX0 yX0_reduced yX0_reduced) ∈ ALL := A_1_in _ (List.mem_of_getElem? (i := 7) rfl)
theorem m_38 : (Cond.initialized RX0) ∈ ALL := A_1_in _ (List.mem_of_getElem? (i := 8) rfl)
theorem m_39 : (Cond.methodLink RX0 40 yX0_insert) ∈ ALL := A_1_in _ (List.mem_of_getElem? (i := 9) rfl)
theorem m_40 : (Cond.instanceMethod yX0_insert) ∈ ALL := A_1_in _ (List.mem_of_getElem? (i := 10) rfl)
theorem m_41 : (Cond.selects RX0 yX0_insert yX0_insert) ∈ ALL := A_1_in _ (List.mem_of_getElem? (i := 11) rfl)
theorem m_42 : (Cond.code yX0_run cX0_run 4 none) ∈ ALL := A_1_in _ (List.mem_of_getElem? (i := 12) rfl)
theorem m_43 : (Cond.code yX0_rowAt cX0_rowAt 4 (some .int)) ∈ ALL := A_1_in _ (List.mem_of_getElem? (i := 13) rfl)
theorem m_44 : (Cond.code yX1_init cX1_init 1 none) ∈ ALL := A_1_in _ (List.mem_of_getElem? (i := 14) rfl)
theorem m_45 : (Cond.methodLink RX1 3 objectInit) ∈ ALL := A_1_in _ (List.mem_of_getElem? (i := 15) rfl)
theorem m_46 : (Cond.code yX1_isFull cX1_isFull 1 (some .boolean)) ∈ ALL := A_1_in _ (List.mem_of_getElem? (i := 16) rfl)
theorem m_47 : (Cond.code yX1_add cX1_add 2 none) ∈ ALL := A_1_in _ (List.mem_of_getElem? (i := 17) rfl)
theorem m_48 : (Cond.methodLink RX1 23 yX1_isFull) ∈ ALL := A_1_in _ (List.mem_of_getElem? (i := 18) rfl)
theorem m_49 : (Cond.instanceMethod yX1_isFull) ∈ ALL := A_1_in _ (List.mem_of_getElem? (i := 19) rfl)
theorem m_50 : (Cond.selects RX1 yX1_isFull yX1_isFull) ∈ ALL := A_1_in _ (List.mem_of_getElem? (i := 20) rfl)
theorem m_51 : (Cond.code yX1_removeAt cX1_removeAt 3 none) ∈ ALL := A_1_in _ (List.mem_of_getElem? (i := 21) rfl)
theorem m_52 : (Cond.code yX1_copyFrom cX1_copyFrom 3 none) ∈ ALL := A_1_in _ (List.mem_of_getElem? (i := 22) rfl)
theorem m_53 : (Cond.code yX7_variablesOf cX7_variablesOf 2 (some .int)) ∈ ALL := A_1_in _ (List.mem_of_getElem? (i := 23) rfl)
theorem m_54 : (Cond.code yJ6_bitCount_0f7a4 cJ6_bitCount_0f7a4 1 (some .int)) ∈ ALL := A_1_in _ (List.mem_of_getElem? (i := 24) rfl)
theorem m_55 : (Cond.constant RJ6 265 (1431655765)) ∈ ALL := A_1_in _ (List.mem_of_getElem? (i := 25) rfl)
theorem m_56 : (Cond.constant RJ6 266 (858993459)) ∈ ALL := A_1_in _ (List.mem_of_getElem? (i := 26) rfl)
theorem m_57 : (Cond.constant RJ6 267 (252645135)) ∈ ALL := A_1_in _ (List.mem_of_getElem? (i := 27) rfl)
theorem m_58 : (Cond.code yX7_isViolated cX7_isViolated 4 (some .boolean)) ∈ ALL := A_1_in _ (List.mem_of_getElem? (i := 28) rfl)
theorem m_59 : (Cond.methodLink RX7 322 yJ6_bitCount_0f7a4) ∈ ALL := A_1_in _ (List.mem_of_getElem? (i := 29) rfl)
theorem m_60 : (Cond.static yJ6_bitCount_0f7a4) ∈ ALL := A_2_in _ (List.mem_of_getElem? (i := 0) rfl)
theorem m_61 : (Cond.initialized RJ6) ∈ ALL := A_2_in _ (List.mem_of_getElem? (i := 1) rfl)
theorem m_62 : (Cond.code yX1_firstViolatedOrUnit cX1_firstViolatedOrUnit 5 (some .int)) ∈ ALL := A_2_in _ (List.mem_of_getElem? (i := 2) rfl)
theorem m_63 : (Cond.static yX7_variablesOf) ∈ ALL := A_2_in _ (List.mem_of_getElem? (i := 3) rfl)
theorem m_64 : (Cond.methodLink RX1 31 yJ6_bitCount_0f7a4) ∈ ALL := A_2_in _ (List.mem_of_getElem? (i := 4) rfl)
theorem m_65 : (Cond.static yX7_isViolated) ∈ ALL := A_2_in _ (List.mem_of_getElem? (i := 5) rfl)
theorem m_66 : (Cond.code yX2_init cX2_init 1 none) ∈ ALL := A_2_in _ (List.mem_of_getElem? (i := 6) rfl)
theorem m_67 : (Cond.methodLink RX2 3 objectInit) ∈ ALL := A_2_in _ (List.mem_of_getElem? (i := 7) rfl)
theorem m_68 : (Cond.fieldLink RX2 9 "CnfXorSolver$FormulaText" "characters" "[I") ∈ ALL := A_2_in _ (List.mem_of_getElem? (i := 8) rfl)
theorem m_69 : (Cond.fieldLink RX2 15 "CnfXorSolver$FormulaText" "length" "I") ∈ ALL := A_2_in _ (List.mem_of_getElem? (i := 9) rfl)
theorem m_70 : (Cond.classLink RX2 19 RX1) ∈ ALL := A_2_in _ (List.mem_of_getElem? (i := 10) rfl)
theorem m_71 : (Cond.instantiable RX1 2) ∈ ALL := A_2_in _ (List.mem_of_getElem? (i := 11) rfl)
theorem m_72 : (Cond.fieldLink RX2 22 "CnfXorSolver$FormulaText" "formula" "LCnfXorSolver$Formula;") ∈ ALL := A_2_in _ (List.mem_of_getElem? (i := 12) rfl)
theorem m_73 : (Cond.fieldLink RX2 26 "CnfXorSolver$FormulaText" "place" "I") ∈ ALL := A_2_in _ (List.mem_of_getElem? (i := 13) rfl)
theorem m_74 : (Cond.fieldLink RX2 29 "CnfXorSolver$FormulaText" "itemFirst" "I") ∈ ALL := A_2_in _ (List.mem_of_getElem? (i := 14) rfl)
theorem m_75 : (Cond.fieldLink RX2 32 "CnfXorSolver$FormulaText" "itemSecond" "I") ∈ ALL := A_2_in _ (List.mem_of_getElem? (i := 15) rfl)
theorem m_76 : (Cond.instanceMethod yX1_init) ∈ ALL := A_2_in _ (List.mem_of_getElem? (i := 16) rfl)
theorem m_77 : (Cond.code yX2_put cX2_put 2 none) ∈ ALL := A_2_in _ (List.mem_of_getElem? (i := 17) rfl)
theorem m_78 : (Cond.code yX2_startItem cX2_startItem 1 none) ∈ ALL := A_2_in _ (List.mem_of_getElem? (i := 18) rfl)
theorem m_79 : (Cond.code yX2_isNewLetter cX2_isNewLetter 4 (some .boolean)) ∈ ALL := A_2_in _ (List.mem_of_getElem? (i := 19) rfl)
theorem m_80 : (Cond.code yX2_takesClauseLetter cX2_takesClauseLetter 3 (some .boolean)) ∈ ALL := A_2_in _ (List.mem_of_getElem? (i := 20) rfl)
theorem m_81 : (Cond.methodLink RX2 68 yX2_isNewLetter) ∈ ALL := A_2_in _ (List.mem_of_getElem? (i := 21) rfl)
theorem m_82 : (Cond.static yX2_isNewLetter) ∈ ALL := A_2_in _ (List.mem_of_getElem? (i := 22) rfl)
theorem m_83 : (Cond.initialized RX2) ∈ ALL := A_2_in _ (List.mem_of_getElem? (i := 23) rfl)
theorem m_84 : (Cond.code yX2_takesFirst cX2_takesFirst 2 (some .boolean)) ∈ ALL := A_2_in _ (List.mem_of_getElem? (i := 24) rfl)
theorem m_85 : (Cond.methodLink RX2 64 yX1_isFull) ∈ ALL := A_2_in _ (List.mem_of_getElem? (i := 25) rfl)
theorem m_86 : (Cond.methodLink RX2 55 yX2_takesClauseLetter) ∈ ALL := A_2_in _ (List.mem_of_getElem? (i := 26) rfl)
theorem m_87 : (Cond.instanceMethod yX2_takesClauseLetter) ∈ ALL := A_2_in _ (List.mem_of_getElem? (i := 27) rfl)
theorem m_88 : (Cond.selects RX2 yX2_takesClauseLetter yX2_takesClauseLetter) ∈ ALL := A_2_in _ (List.mem_of_getElem? (i := 28) rfl)
theorem m_89 : (Cond.code yX7_clauseCode cX7_clauseCode 2 (some .int)) ∈ ALL := A_2_in _ (List.mem_of_getElem? (i := 29) rfl)
theorem m_90 : (Cond.code yX2_endsItem cX2_endsItem 2 (some .boolean)) ∈ ALL := A_3_in _ (List.mem_of_getElem? (i := 0) rfl)
theorem m_91 : (Cond.methodLink RX2 75 yX1_add) ∈ ALL := A_3_in _ (List.mem_of_getElem? (i := 1) rfl)
theorem m_92 : (Cond.instanceMethod yX1_add) ∈ ALL := A_3_in _ (List.mem_of_getElem? (i := 2) rfl)
theorem m_93 : (Cond.selects RX1 yX1_add yX1_add) ∈ ALL := A_3_in _ (List.mem_of_getElem? (i := 3) rfl)
theorem m_94 : (Cond.methodLink RX2 38 yX2_startItem) ∈ ALL := A_3_in _ (List.mem_of_getElem? (i := 4) rfl)
theorem m_95 : (Cond.instanceMethod yX2_startItem) ∈ ALL := A_3_in _ (List.mem_of_getElem? (i := 5) rfl)
theorem m_96 : (Cond.selects RX2 yX2_startItem yX2_startItem) ∈ ALL := A_3_in _ (List.mem_of_getElem? (i := 6) rfl)
theorem m_97 : (Cond.code yX2_takesBit cX2_takesBit 2 (some .boolean)) ∈ ALL := A_3_in _ (List.mem_of_getElem? (i := 7) rfl)
theorem m_98 : (Cond.code yX7_parityCode cX7_parityCode 2 (some .int)) ∈ ALL := A_3_in _ (List.mem_of_getElem? (i := 8) rfl)
theorem m_99 : (Cond.static yX7_parityCode) ∈ ALL := A_3_in _ (List.mem_of_getElem? (i := 9) rfl)
theorem m_100 : (Cond.methodLink RX2 52 yX2_endsItem) ∈ ALL := A_3_in _ (List.mem_of_getElem? (i := 10) rfl)
theorem m_101 : (Cond.instanceMethod yX2_endsItem) ∈ ALL := A_3_in _ (List.mem_of_getElem? (i := 11) rfl)
theorem m_102 : (Cond.selects RX2 yX2_endsItem yX2_endsItem) ∈ ALL := A_3_in _ (List.mem_of_getElem? (i := 12) rfl)
theorem m_103 : (Cond.code yX2_takesInParity cX2_takesInParity 2 (some .boolean)) ∈ ALL := A_3_in _ (List.mem_of_getElem? (i := 13) rfl)
theorem m_104 : (Cond.methodLink RX2 45 yX2_takesFirst) ∈ ALL := A_3_in _ (List.mem_of_getElem? (i := 14) rfl)
theorem m_105 : (Cond.instanceMethod yX2_takesFirst) ∈ ALL := A_3_in _ (List.mem_of_getElem? (i := 15) rfl)
theorem m_106 : (Cond.selects RX2 yX2_takesFirst yX2_takesFirst) ∈ ALL := A_3_in _ (List.mem_of_getElem? (i := 16) rfl)
theorem m_107 : (Cond.static yX7_clauseCode) ∈ ALL := A_3_in _ (List.mem_of_getElem? (i := 17) rfl)
theorem m_108 : (Cond.methodLink RX2 58 yX2_takesBit) ∈ ALL := A_3_in _ (List.mem_of_getElem? (i := 18) rfl)
theorem m_109 : (Cond.instanceMethod yX2_takesBit) ∈ ALL := A_3_in _ (List.mem_of_getElem? (i := 19) rfl)
theorem m_110 : (Cond.selects RX2 yX2_takesBit yX2_takesBit) ∈ ALL := A_3_in _ (List.mem_of_getElem? (i := 20) rfl)
theorem m_111 : (Cond.methodLink RX2 61 yX2_takesInParity) ∈ ALL := A_3_in _ (List.mem_of_getElem? (i := 21) rfl)
theorem m_112 : (Cond.instanceMethod yX2_takesInParity) ∈ ALL := A_3_in _ (List.mem_of_getElem? (i := 22) rfl)
theorem m_113 : (Cond.selects RX2 yX2_takesInParity yX2_takesInParity) ∈ ALL := A_3_in _ (List.mem_of_getElem? (i := 23) rfl)
theorem m_114 : (Cond.code yX2_takes cX2_takes 2 (some .boolean)) ∈ ALL := A_3_in _ (List.mem_of_getElem? (i := 24) rfl)
theorem m_115 : (Cond.methodLink RX2 41 yX2_takes) ∈ ALL := A_3_in _ (List.mem_of_getElem? (i := 25) rfl)
theorem m_116 : (Cond.instanceMethod yX2_takes) ∈ ALL := A_3_in _ (List.mem_of_getElem? (i := 26) rfl)
theorem m_117 : (Cond.selects RX2 yX2_takes yX2_takes) ∈ ALL := A_3_in _ (List.mem_of_getElem? (i := 27) rfl)
theorem m_118 : (Cond.code yX2_read cX2_read 2 (some .int)) ∈ ALL := A_3_in _ (List.mem_of_getElem? (i := 28) rfl)
theorem m_119 : (Cond.code yX5_init cX5_init 1 none) ∈ ALL := A_3_in _ (List.mem_of_getElem? (i := 29) rfl)
theorem m_120 : (Cond.methodLink RX5 3 objectInit) ∈ ALL := A_4_in _ (List.mem_of_getElem? (i := 0) rfl)
theorem m_121 : (Cond.classLink RX5 9 RX1) ∈ ALL := A_4_in _ (List.mem_of_getElem? (i := 1) rfl)
theorem m_122 : (Cond.fieldLink RX5 12 "CnfXorSolver$State" "formula" "LCnfXorSolver$Formula;") ∈ ALL := A_4_in _ (List.mem_of_getElem? (i := 2) rfl)
theorem m_123 : (Cond.fieldLink RX5 18 "CnfXorSolver$State" "decisions" "[I") ∈ ALL := A_4_in _ (List.mem_of_getElem? (i := 3) rfl)
theorem m_124 : (Cond.fieldLink RX5 22 "CnfXorSolver$State" "decisionCount" "I") ∈ ALL := A_4_in _ (List.mem_of_getElem? (i := 4) rfl)
theorem m_125 : (Cond.methodLink RX3 3 objectInit) ∈ ALL := A_4_in _ (List.mem_of_getElem? (i := 5) rfl)
theorem m_126 : (Cond.classLink RX3 9 RX5) ∈ ALL := A_4_in _ (List.mem_of_getElem? (i := 6) rfl)
theorem m_127 : (Cond.fieldLink RX3 11 "CnfXorSolver$Memory" "remembered" "[LCnfXorSolver$State;") ∈ ALL := A_4_in _ (List.mem_of_getElem? (i := 7) rfl)
theorem m_128 : (Cond.fieldLink RX3 17 "CnfXorSolver$Memory" "slots" "[LCnfXorSolver$State;") ∈ ALL := A_4_in _ (List.mem_of_getElem? (i := 8) rfl)
theorem m_129 : (Cond.arrayClass .boolean) ∈ ALL := A_4_in _ (List.mem_of_getElem? (i := 9) rfl)
theorem m_130 : (Cond.fieldLink RX3 20 "CnfXorSolver$Memory" "filled" "[Z") ∈ ALL := A_4_in _ (List.mem_of_getElem? (i := 10) rfl)
theorem m_131 : (Cond.fieldLink RX3 24 "CnfXorSolver$Memory" "rememberedCount" "I") ∈ ALL := A_4_in _ (List.mem_of_getElem? (i := 11) rfl)
theorem m_132 : (Cond.instantiable RX5 3) ∈ ALL := A_4_in _ (List.mem_of_getElem? (i := 12) rfl)
theorem m_133 : (Cond.initialized RX5) ∈ ALL := A_4_in _ (List.mem_of_getElem? (i := 13) rfl)
theorem m_134 : (Cond.instanceMethod yX5_init) ∈ ALL := A_4_in _ (List.mem_of_getElem? (i := 14) rfl)
theorem m_135 : (Cond.code yX3_init cX3_init 2 none) ∈ ALL := A_4_in _ (List.mem_of_getElem? (i := 15) rfl)
theorem m_136 : (Cond.code yX3_forgetOldest cX3_forgetOldest 3 none) ∈ ALL := A_4_in _ (List.mem_of_getElem? (i := 16) rfl)
theorem m_137 : (Cond.code yX5_copyFrom cX5_copyFrom 3 none) ∈ ALL := A_4_in _ (List.mem_of_getElem? (i := 17) rfl)
theorem m_138 : (Cond.methodLink RX5 35 yX1_copyFrom) ∈ ALL := A_4_in _ (List.mem_of_getElem? (i := 18) rfl)
theorem m_139 : (Cond.instanceMethod yX1_copyFrom) ∈ ALL := A_4_in _ (List.mem_of_getElem? (i := 19) rfl)
theorem m_140 : (Cond.selects RX1 yX1_copyFrom yX1_copyFrom) ∈ ALL := A_4_in _ (List.mem_of_getElem? (i := 20) rfl)
theorem m_141 : (Cond.code yX3_copyInto cX3_copyInto 2 none) ∈ ALL := A_4_in _ (List.mem_of_getElem? (i := 21) rfl)
theorem m_142 : (Cond.methodLink RX3 40 yX5_copyFrom) ∈ ALL := A_4_in _ (List.mem_of_getElem? (i := 22) rfl)
theorem m_143 : (Cond.instanceMethod yX5_copyFrom) ∈ ALL := A_4_in _ (List.mem_of_getElem? (i := 23) rfl)
theorem m_144 : (Cond.selects RX5 yX5_copyFrom yX5_copyFrom) ∈ ALL := A_4_in _ (List.mem_of_getElem? (i := 24) rfl)
theorem m_145 : (Cond.methodLink RX3 29 yX3_forgetOldest) ∈ ALL := A_4_in _ (List.mem_of_getElem? (i := 25) rfl)
theorem m_146 : (Cond.instanceMethod yX3_forgetOldest) ∈ ALL := A_4_in _ (List.mem_of_getElem? (i := 26) rfl)
theorem m_147 : (Cond.selects RX3 yX3_forgetOldest yX3_forgetOldest) ∈ ALL := A_4_in _ (List.mem_of_getElem? (i := 27) rfl)
theorem m_148 : (Cond.initialized RX3) ∈ ALL := A_4_in _ (List.mem_of_getElem? (i := 28) rfl)
theorem m_149 : (Cond.methodLink RX3 32 yX3_copyInto) ∈ ALL := A_4_in _ (List.mem_of_getElem? (i := 29) rfl)
theorem m_150 : (Cond.static yX3_copyInto) ∈ ALL := A_5_in _ (List.mem_of_getElem? (i := 0) rfl)
theorem m_151 : (Cond.code yX3_remember cX3_remember 2 none) ∈ ALL := A_5_in _ (List.mem_of_getElem? (i := 1) rfl)
theorem m_152 : (Cond.code yX3_takeBack cX3_takeBack 2 none) ∈ ALL := A_5_in _ (List.mem_of_getElem? (i := 2) rfl)
theorem m_153 : (Cond.code yX3_forgetAll cX3_forgetAll 1 none) ∈ ALL := A_5_in _ (List.mem_of_getElem? (i := 3) rfl)
theorem m_154 : (Cond.code yX3_isFilled cX3_isFilled 2 (some .boolean)) ∈ ALL := A_5_in _ (List.mem_of_getElem? (i := 4) rfl)
theorem m_155 : (Cond.code yX3_fillSlot cX3_fillSlot 3 none) ∈ ALL := A_5_in _ (List.mem_of_getElem? (i := 5) rfl)
theorem m_156 : (Cond.methodLink RX3 36 yX3_isFilled) ∈ ALL := A_5_in _ (List.mem_of_getElem? (i := 6) rfl)
theorem m_157 : (Cond.instanceMethod yX3_isFilled) ∈ ALL := A_5_in _ (List.mem_of_getElem? (i := 7) rfl)
theorem m_158 : (Cond.selects RX3 yX3_isFilled yX3_isFilled) ∈ ALL := A_5_in _ (List.mem_of_getElem? (i := 8) rfl)
theorem m_159 : (Cond.code yX3_copySlot cX3_copySlot 3 none) ∈ ALL := A_5_in _ (List.mem_of_getElem? (i := 9) rfl)
theorem m_160 : (Cond.code yX3_emptySlots cX3_emptySlots 2 none) ∈ ALL := A_5_in _ (List.mem_of_getElem? (i := 10) rfl)
theorem m_161 : (Cond.code yX4_init cX4_init 1 none) ∈ ALL := A_5_in _ (List.mem_of_getElem? (i := 11) rfl)
theorem m_162 : (Cond.methodLink RX4 3 objectInit) ∈ ALL := A_5_in _ (List.mem_of_getElem? (i := 12) rfl)
theorem m_163 : (Cond.fieldLink RX4 9 "CnfXorSolver$ModelTable" "violated" "[I") ∈ ALL := A_5_in _ (List.mem_of_getElem? (i := 13) rfl)
theorem m_164 : (Cond.fieldLink RX4 15 "CnfXorSolver$ModelTable" "stale" "Z") ∈ ALL := A_5_in _ (List.mem_of_getElem? (i := 14) rfl)
theorem m_165 : (Cond.code yX4_violatedBy cX4_violatedBy 4 (some .int)) ∈ ALL := A_5_in _ (List.mem_of_getElem? (i := 15) rfl)
theorem m_166 : (Cond.methodLink RX4 29 yX1_codeAt) ∈ ALL := A_5_in _ (List.mem_of_getElem? (i := 16) rfl)
theorem m_167 : (Cond.methodLink RX4 19 yX4_violatedBy) ∈ ALL := A_5_in _ (List.mem_of_getElem? (i := 17) rfl)
theorem m_168 : (Cond.static yX4_violatedBy) ∈ ALL := A_5_in _ (List.mem_of_getElem? (i := 18) rfl)
theorem m_169 : (Cond.initialized RX4) ∈ ALL := A_5_in _ (List.mem_of_getElem? (i := 19) rfl)
theorem m_170 : (Cond.code yX4_refresh cX4_refresh 3 none) ∈ ALL := A_5_in _ (List.mem_of_getElem? (i := 20) rfl)
theorem m_171 : (Cond.code yX4_countModels cX4_countModels 3 (some .int)) ∈ ALL := A_5_in _ (List.mem_of_getElem? (i := 21) rfl)
theorem m_172 : (Cond.code yX4_modelAt cX4_modelAt 4 (some .int)) ∈ ALL := A_5_in _ (List.mem_of_getElem? (i := 22) rfl)
theorem m_173 : (Cond.code yX4_allSatisfy cX4_allSatisfy 3 (some .boolean)) ∈ ALL := A_5_in _ (List.mem_of_getElem? (i := 23) rfl)
theorem m_174 : (Cond.code yX4_canSatisfy cX4_canSatisfy 3 (some .boolean)) ∈ ALL := A_5_in _ (List.mem_of_getElem? (i := 24) rfl)
theorem m_175 : (Cond.code yX5_decisionAt cX5_decisionAt 2 (some .int)) ∈ ALL := A_5_in _ (List.mem_of_getElem? (i := 25) rfl)
theorem m_176 : (Cond.code yX5_addDecision cX5_addDecision 2 none) ∈ ALL := A_5_in _ (List.mem_of_getElem? (i := 26) rfl)
theorem m_177 : (Cond.code yX5_keepDecisions cX5_keepDecisions 2 none) ∈ ALL := A_5_in _ (List.mem_of_getElem? (i := 27) rfl)
theorem m_178 : (Cond.methodLink RX5 26 Lib.Math.min.name) ∈ ALL := A_5_in _ (List.mem_of_getElem? (i := 28) rfl)
theorem m_179 : (Cond.static Lib.Math.min.name) ∈ ALL := A_5_in _ (List.mem_of_getElem? (i := 29) rfl)
theorem m_180 : (Cond.initialized "java/lang/Math") ∈ ALL := A_6_in _ (List.mem_of_getElem? (i := 0) rfl)
theorem m_181 : (Cond.code Lib.Math.min.name Lib.Math.min.code 2 (some .int)) ∈ ALL := A_6_in _ (List.mem_of_getElem? (i := 1) rfl)
theorem m_182 : (Cond.methodLink RX5 32 Lib.Math.max.name) ∈ ALL := A_6_in _ (List.mem_of_getElem? (i := 2) rfl)
theorem m_183 : (Cond.static Lib.Math.max.name) ∈ ALL := A_6_in _ (List.mem_of_getElem? (i := 3) rfl)
theorem m_184 : (Cond.code Lib.Math.max.name Lib.Math.max.code 2 (some .int)) ∈ ALL := A_6_in _ (List.mem_of_getElem? (i := 4) rfl)
theorem m_185 : (Cond.code yX6_init cX6_init 1 none) ∈ ALL := A_6_in _ (List.mem_of_getElem? (i := 5) rfl)
theorem m_186 : (Cond.methodLink RX6 3 objectInit) ∈ ALL := A_6_in _ (List.mem_of_getElem? (i := 6) rfl)
theorem m_187 : (Cond.fieldLink RX6 9 "CnfXorSolver$Trail" "order" "[I") ∈ ALL := A_6_in _ (List.mem_of_getElem? (i := 7) rfl)
theorem m_188 : (Cond.fieldLink RX6 15 "CnfXorSolver$Trail" "levels" "[I") ∈ ALL := A_6_in _ (List.mem_of_getElem? (i := 8) rfl)
theorem m_189 : (Cond.fieldLink RX6 18 "CnfXorSolver$Trail" "reasons" "[I") ∈ ALL := A_6_in _ (List.mem_of_getElem? (i := 9) rfl)
theorem m_190 : (Cond.fieldLink RX6 21 "CnfXorSolver$Trail" "length" "I") ∈ ALL := A_6_in _ (List.mem_of_getElem? (i := 10) rfl)
theorem m_191 : (Cond.fieldLink RX6 25 "CnfXorSolver$Trail" "assigned" "I") ∈ ALL := A_6_in _ (List.mem_of_getElem? (i := 11) rfl)
theorem m_192 : (Cond.fieldLink RX6 28 "CnfXorSolver$Trail" "trueSet" "I") ∈ ALL := A_6_in _ (List.mem_of_getElem? (i := 12) rfl)
theorem m_193 : (Cond.fieldLink RX6 31 "CnfXorSolver$Trail" "topLevel" "I") ∈ ALL := A_6_in _ (List.mem_of_getElem? (i := 13) rfl)
theorem m_194 : (Cond.fieldLink RX6 34 "CnfXorSolver$Trail" "assignedBelow" "I") ∈ ALL := A_6_in _ (List.mem_of_getElem? (i := 14) rfl)
theorem m_195 : (Cond.fieldLink RX6 37 "CnfXorSolver$Trail" "conflictNumber" "I") ∈ ALL := A_6_in _ (List.mem_of_getElem? (i := 15) rfl)
theorem m_196 : (Cond.code yX6_assign cX6_assign 4 none) ∈ ALL := A_6_in _ (List.mem_of_getElem? (i := 16) rfl)
theorem m_197 : (Cond.methodLink RX6 82 yX1_firstViolatedOrUnit) ∈ ALL := A_6_in _ (List.mem_of_getElem? (i := 17) rfl)
theorem m_198 : (Cond.instanceMethod yX1_firstViolatedOrUnit) ∈ ALL := A_6_in _ (List.mem_of_getElem? (i := 18) rfl)
theorem m_199 : (Cond.selects RX1 yX1_firstViolatedOrUnit yX1_firstViolatedOrUnit) ∈ ALL := A_6_in _ (List.mem_of_getElem? (i := 19) rfl)
theorem m_200 : (Cond.methodLink RX6 88 yX1_codeAt) ∈ ALL := A_6_in _ (List.mem_of_getElem? (i := 20) rfl)
theorem m_201 : (Cond.methodLink RX6 78 yX6_assign) ∈ ALL := A_6_in _ (List.mem_of_getElem? (i := 21) rfl)
theorem m_202 : (Cond.instanceMethod yX6_assign) ∈ ALL := A_6_in _ (List.mem_of_getElem? (i := 22) rfl)
theorem m_203 : (Cond.selects RX6 yX6_assign yX6_assign) ∈ ALL := A_6_in _ (List.mem_of_getElem? (i := 23) rfl)
theorem m_204 : (Cond.initialized RX6) ∈ ALL := A_6_in _ (List.mem_of_getElem? (i := 24) rfl)
theorem m_205 : (Cond.code yX6_propagate cX6_propagate 6 none) ∈ ALL := A_6_in _ (List.mem_of_getElem? (i := 25) rfl)
theorem m_206 : (Cond.code yX7_variableOf cX7_variableOf 1 (some .int)) ∈ ALL := A_6_in _ (List.mem_of_getElem? (i := 26) rfl)
theorem m_207 : (Cond.code yX6_isAssigned cX6_isAssigned 2 (some .boolean)) ∈ ALL := A_6_in _ (List.mem_of_getElem? (i := 27) rfl)
theorem m_208 : (Cond.code yX6_allows cX6_allows 2 (some .boolean)) ∈ ALL := A_6_in _ (List.mem_of_getElem? (i := 28) rfl)
theorem m_209 : (Cond.static yX7_variableOf) ∈ ALL := A_6_in _ (List.mem_of_getElem? (i := 29) rfl)
theorem m_210 : (Cond.methodLink RX6 71 yX6_isAssigned) ∈ ALL := A_7_in _ (List.mem_of_getElem? (i := 0) rfl)
theorem m_211 : (Cond.instanceMethod yX6_isAssigned) ∈ ALL := A_7_in _ (List.mem_of_getElem? (i := 1) rfl)
theorem m_212 : (Cond.selects RX6 yX6_isAssigned yX6_isAssigned) ∈ ALL := A_7_in _ (List.mem_of_getElem? (i := 2) rfl)
theorem m_213 : (Cond.code yX7_literalOf cX7_literalOf 2 (some .int)) ∈ ALL := A_7_in _ (List.mem_of_getElem? (i := 3) rfl)
theorem m_214 : (Cond.code yX6_startLevel cX6_startLevel 3 none) ∈ ALL := A_7_in _ (List.mem_of_getElem? (i := 4) rfl)
theorem m_215 : (Cond.static yX7_literalOf) ∈ ALL := A_7_in _ (List.mem_of_getElem? (i := 5) rfl)
theorem m_216 : (Cond.methodLink RX6 46 yX6_propagate) ∈ ALL := A_7_in _ (List.mem_of_getElem? (i := 6) rfl)
theorem m_217 : (Cond.instanceMethod yX6_propagate) ∈ ALL := A_7_in _ (List.mem_of_getElem? (i := 7) rfl)
theorem m_218 : (Cond.selects RX6 yX6_propagate yX6_propagate) ∈ ALL := A_7_in _ (List.mem_of_getElem? (i := 8) rfl)
theorem m_219 : (Cond.methodLink RX6 53 yX5_decisionAt) ∈ ALL := A_7_in _ (List.mem_of_getElem? (i := 9) rfl)
theorem m_220 : (Cond.instanceMethod yX5_decisionAt) ∈ ALL := A_7_in _ (List.mem_of_getElem? (i := 10) rfl)
theorem m_221 : (Cond.selects RX5 yX5_decisionAt yX5_decisionAt) ∈ ALL := A_7_in _ (List.mem_of_getElem? (i := 11) rfl)
theorem m_222 : (Cond.methodLink RX6 57 yX6_allows) ∈ ALL := A_7_in _ (List.mem_of_getElem? (i := 12) rfl)
theorem m_223 : (Cond.instanceMethod yX6_allows) ∈ ALL := A_7_in _ (List.mem_of_getElem? (i := 13) rfl)
theorem m_224 : (Cond.selects RX6 yX6_allows yX6_allows) ∈ ALL := A_7_in _ (List.mem_of_getElem? (i := 14) rfl)
theorem m_225 : (Cond.methodLink RX6 61 yX6_startLevel) ∈ ALL := A_7_in _ (List.mem_of_getElem? (i := 15) rfl)
theorem m_226 : (Cond.instanceMethod yX6_startLevel) ∈ ALL := A_7_in _ (List.mem_of_getElem? (i := 16) rfl)
theorem m_227 : (Cond.selects RX6 yX6_startLevel yX6_startLevel) ∈ ALL := A_7_in _ (List.mem_of_getElem? (i := 17) rfl)
theorem m_228 : (Cond.methodLink RX6 65 yX5_keepDecisions) ∈ ALL := A_7_in _ (List.mem_of_getElem? (i := 18) rfl)
theorem m_229 : (Cond.instanceMethod yX5_keepDecisions) ∈ ALL := A_7_in _ (List.mem_of_getElem? (i := 19) rfl)
theorem m_230 : (Cond.selects RX5 yX5_keepDecisions yX5_keepDecisions) ∈ ALL := A_7_in _ (List.mem_of_getElem? (i := 20) rfl)
theorem m_231 : (Cond.code yX6_build cX6_build 4 none) ∈ ALL := A_7_in _ (List.mem_of_getElem? (i := 21) rfl)
theorem m_232 : (Cond.code yX6_isTrue cX6_isTrue 2 (some .boolean)) ∈ ALL := A_7_in _ (List.mem_of_getElem? (i := 22) rfl)
theorem m_233 : (Cond.code yX6_literalAt cX6_literalAt 2 (some .int)) ∈ ALL := A_7_in _ (List.mem_of_getElem? (i := 23) rfl)
theorem m_234 : (Cond.methodLink RX6 107 yX6_isTrue) ∈ ALL := A_7_in _ (List.mem_of_getElem? (i := 24) rfl)
theorem m_235 : (Cond.instanceMethod yX6_isTrue) ∈ ALL := A_7_in _ (List.mem_of_getElem? (i := 25) rfl)
theorem m_236 : (Cond.selects RX6 yX6_isTrue yX6_isTrue) ∈ ALL := A_7_in _ (List.mem_of_getElem? (i := 26) rfl)
theorem m_237 : (Cond.code yX6_reasonOf cX6_reasonOf 2 (some .int)) ∈ ALL := A_7_in _ (List.mem_of_getElem? (i := 27) rfl)
theorem m_238 : (Cond.methodLink RX6 110 yJ6_bitCount_0f7a4) ∈ ALL := A_7_in _ (List.mem_of_getElem? (i := 28) rfl)
theorem m_239 : (Cond.methodLink RX6 115 yX6_reasonOf) ∈ ALL := A_7_in _ (List.mem_of_getElem? (i := 29) rfl)
theorem m_240 : (Cond.instanceMethod yX6_reasonOf) ∈ ALL := A_8_in _ (List.mem_of_getElem? (i := 0) rfl)
theorem m_241 : (Cond.selects RX6 yX6_reasonOf yX6_reasonOf) ∈ ALL := A_8_in _ (List.mem_of_getElem? (i := 1) rfl)
theorem m_242 : (Cond.code yX6_learnedVariables cX6_learnedVariables 7 (some .int)) ∈ ALL := A_8_in _ (List.mem_of_getElem? (i := 2) rfl)
theorem m_243 : (Cond.code yX6_backjumpLevel cX6_backjumpLevel 4 (some .int)) ∈ ALL := A_8_in _ (List.mem_of_getElem? (i := 3) rfl)
theorem m_244 : (Cond.methodLink RX6 118 Lib.Math.max.name) ∈ ALL := A_8_in _ (List.mem_of_getElem? (i := 4) rfl)
theorem m_245 : (Cond.code yX6_falseClause cX6_falseClause 2 (some .int)) ∈ ALL := A_8_in _ (List.mem_of_getElem? (i := 5) rfl)
theorem m_246 : (Cond.methodLink RX7 1 objectInit) ∈ ALL := A_8_in _ (List.mem_of_getElem? (i := 6) rfl)
theorem m_247 : (Cond.classLink RX7 7 RX2) ∈ ALL := A_8_in _ (List.mem_of_getElem? (i := 7) rfl)
theorem m_248 : (Cond.instantiable RX2 6) ∈ ALL := A_8_in _ (List.mem_of_getElem? (i := 8) rfl)
theorem m_249 : (Cond.fieldLink RX7 10 "CnfXorSolver" "text" "LCnfXorSolver$FormulaText;") ∈ ALL := A_8_in _ (List.mem_of_getElem? (i := 9) rfl)
theorem m_250 : (Cond.classLink RX7 16 RX5) ∈ ALL := A_8_in _ (List.mem_of_getElem? (i := 10) rfl)
theorem m_251 : (Cond.fieldLink RX7 19 "CnfXorSolver" "state" "LCnfXorSolver$State;") ∈ ALL := A_8_in _ (List.mem_of_getElem? (i := 11) rfl)
theorem m_252 : (Cond.classLink RX7 23 RX6) ∈ ALL := A_8_in _ (List.mem_of_getElem? (i := 12) rfl)
theorem m_253 : (Cond.instantiable RX6 9) ∈ ALL := A_8_in _ (List.mem_of_getElem? (i := 13) rfl)
theorem m_254 : (Cond.fieldLink RX7 26 "CnfXorSolver" "trail" "LCnfXorSolver$Trail;") ∈ ALL := A_8_in _ (List.mem_of_getElem? (i := 14) rfl)
theorem m_255 : (Cond.classLink RX7 30 RX3) ∈ ALL := A_8_in _ (List.mem_of_getElem? (i := 15) rfl)
theorem m_256 : (Cond.instantiable RX3 4) ∈ ALL := A_8_in _ (List.mem_of_getElem? (i := 16) rfl)
theorem m_257 : (Cond.fieldLink RX7 33 "CnfXorSolver" "memory" "LCnfXorSolver$Memory;") ∈ ALL := A_8_in _ (List.mem_of_getElem? (i := 17) rfl)
theorem m_258 : (Cond.classLink RX7 37 RX4) ∈ ALL := A_8_in _ (List.mem_of_getElem? (i := 18) rfl)
theorem m_259 : (Cond.instantiable RX4 2) ∈ ALL := A_8_in _ (List.mem_of_getElem? (i := 19) rfl)
theorem m_260 : (Cond.fieldLink RX7 40 "CnfXorSolver" "models" "LCnfXorSolver$ModelTable;") ∈ ALL := A_8_in _ (List.mem_of_getElem? (i := 20) rfl)
theorem m_261 : (Cond.classLink RX7 44 RX0) ∈ ALL := A_8_in _ (List.mem_of_getElem? (i := 21) rfl)
theorem m_262 : (Cond.instantiable RX0 3) ∈ ALL := A_8_in _ (List.mem_of_getElem? (i := 22) rfl)
theorem m_263 : (Cond.fieldLink RX7 47 "CnfXorSolver" "elimination" "LCnfXorSolver$Elimination;") ∈ ALL := A_8_in _ (List.mem_of_getElem? (i := 23) rfl)
theorem m_264 : (Cond.fieldLink RX7 51 "CnfXorSolver" "copy" "LCnfXorSolver$State;") ∈ ALL := A_8_in _ (List.mem_of_getElem? (i := 24) rfl)
theorem m_265 : (Cond.fieldLink RX7 54 "CnfXorSolver" "copyTrail" "LCnfXorSolver$Trail;") ∈ ALL := A_8_in _ (List.mem_of_getElem? (i := 25) rfl)
theorem m_266 : (Cond.instanceMethod yX2_init) ∈ ALL := A_8_in _ (List.mem_of_getElem? (i := 26) rfl)
theorem m_267 : (Cond.instanceMethod yX6_init) ∈ ALL := A_8_in _ (List.mem_of_getElem? (i := 27) rfl)
theorem m_268 : (Cond.methodLink RX7 32 yX3_init) ∈ ALL := A_8_in _ (List.mem_of_getElem? (i := 28) rfl)
theorem m_269 : (Cond.instanceMethod yX3_init) ∈ ALL := A_8_in _ (List.mem_of_getElem? (i := 29) rfl)
theorem m_270 : (Cond.instanceMethod yX4_init) ∈ ALL := A_9_in _ (List.mem_of_getElem? (i := 0) rfl)
theorem m_271 : (Cond.instanceMethod yX0_init) ∈ ALL := A_9_in _ (List.mem_of_getElem? (i := 1) rfl)
theorem m_272 : (Cond.code yX7_init cX7_init 1 none) ∈ ALL := A_9_in _ (List.mem_of_getElem? (i := 2) rfl)
theorem m_273 : (Cond.code yX7_append cX7_append 2 (some .int)) ∈ ALL := A_9_in _ (List.mem_of_getElem? (i := 3) rfl)
theorem m_274 : (Cond.classLink RX7 57 "java/lang/IllegalArgumentException") ∈ ALL := A_9_in _ (List.mem_of_getElem? (i := 4) rfl)
theorem m_275 : (Cond.initialized "java/lang/IllegalArgumentException") ∈ ALL := A_9_in _ (List.mem_of_getElem? (i := 5) rfl)
theorem m_276 : (Cond.classLink RX7 68 "java/lang/IllegalStateException") ∈ ALL := A_9_in _ (List.mem_of_getElem? (i := 6) rfl)
theorem m_277 : (Cond.initialized "java/lang/IllegalStateException") ∈ ALL := A_9_in _ (List.mem_of_getElem? (i := 7) rfl)
theorem m_278 : (Cond.methodLink RX7 73 yX2_put) ∈ ALL := A_9_in _ (List.mem_of_getElem? (i := 8) rfl)
theorem m_279 : (Cond.instanceMethod yX2_put) ∈ ALL := A_9_in _ (List.mem_of_getElem? (i := 9) rfl)
theorem m_280 : (Cond.selects RX2 yX2_put yX2_put) ∈ ALL := A_9_in _ (List.mem_of_getElem? (i := 10) rfl)
theorem m_281 : (Cond.code yX7_clearText cX7_clearText 2 (some .int)) ∈ ALL := A_9_in _ (List.mem_of_getElem? (i := 11) rfl)
theorem m_282 : (Cond.methodLink RX7 77 yX2_read) ∈ ALL := A_9_in _ (List.mem_of_getElem? (i := 12) rfl)
theorem m_283 : (Cond.instanceMethod yX2_read) ∈ ALL := A_9_in _ (List.mem_of_getElem? (i := 13) rfl)
theorem m_284 : (Cond.selects RX2 yX2_read yX2_read) ∈ ALL := A_9_in _ (List.mem_of_getElem? (i := 14) rfl)
theorem m_285 : (Cond.code yX7_errorPosition cX7_errorPosition 1 (some .int)) ∈ ALL := A_9_in _ (List.mem_of_getElem? (i := 15) rfl)
theorem m_286 : (Cond.methodLink RX7 254 yX6_build) ∈ ALL := A_9_in _ (List.mem_of_getElem? (i := 16) rfl)
theorem m_287 : (Cond.instanceMethod yX6_build) ∈ ALL := A_9_in _ (List.mem_of_getElem? (i := 17) rfl)
theorem m_288 : (Cond.selects RX6 yX6_build yX6_build) ∈ ALL := A_9_in _ (List.mem_of_getElem? (i := 18) rfl)
theorem m_289 : (Cond.code yX7_rebuild cX7_rebuild 1 none) ∈ ALL := A_9_in _ (List.mem_of_getElem? (i := 19) rfl)
theorem m_290 : (Cond.methodLink RX7 88 yX1_copyFrom) ∈ ALL := A_9_in _ (List.mem_of_getElem? (i := 20) rfl)
theorem m_291 : (Cond.methodLink RX7 94 yX5_keepDecisions) ∈ ALL := A_9_in _ (List.mem_of_getElem? (i := 21) rfl)
theorem m_292 : (Cond.methodLink RX7 97 yX3_forgetAll) ∈ ALL := A_9_in _ (List.mem_of_getElem? (i := 22) rfl)
theorem m_293 : (Cond.instanceMethod yX3_forgetAll) ∈ ALL := A_9_in _ (List.mem_of_getElem? (i := 23) rfl)
theorem m_294 : (Cond.selects RX3 yX3_forgetAll yX3_forgetAll) ∈ ALL := A_9_in _ (List.mem_of_getElem? (i := 24) rfl)
theorem m_295 : (Cond.methodLink RX7 100 yX3_emptySlots) ∈ ALL := A_9_in _ (List.mem_of_getElem? (i := 25) rfl)
theorem m_296 : (Cond.instanceMethod yX3_emptySlots) ∈ ALL := A_9_in _ (List.mem_of_getElem? (i := 26) rfl)
theorem m_297 : (Cond.selects RX3 yX3_emptySlots yX3_emptySlots) ∈ ALL := A_9_in _ (List.mem_of_getElem? (i := 27) rfl)
theorem m_298 : (Cond.methodLink RX7 103 yX7_rebuild) ∈ ALL := A_9_in _ (List.mem_of_getElem? (i := 28) rfl)
theorem m_299 : (Cond.instanceMethod yX7_rebuild) ∈ ALL := A_9_in _ (List.mem_of_getElem? (i := 29) rfl)
theorem m_300 : (Cond.selects RX7 yX7_rebuild yX7_rebuild) ∈ ALL := A_10_in _ (List.mem_of_getElem? (i := 0) rfl)
theorem m_301 : (Cond.code yX7_load cX7_load 1 (some .int)) ∈ ALL := A_10_in _ (List.mem_of_getElem? (i := 1) rfl)
theorem m_302 : (Cond.code yX7_constraintCount cX7_constraintCount 1 (some .int)) ∈ ALL := A_10_in _ (List.mem_of_getElem? (i := 2) rfl)
theorem m_303 : (Cond.code yX7_requireConstraint cX7_requireConstraint 2 none) ∈ ALL := A_10_in _ (List.mem_of_getElem? (i := 3) rfl)
theorem m_304 : (Cond.classLink RX7 164 "java/lang/IndexOutOfBoundsException") ∈ ALL := A_10_in _ (List.mem_of_getElem? (i := 4) rfl)
theorem m_305 : (Cond.initialized "java/lang/IndexOutOfBoundsException") ∈ ALL := A_10_in _ (List.mem_of_getElem? (i := 5) rfl)
theorem m_306 : (Cond.methodLink RX7 292 yX1_has) ∈ ALL := A_10_in _ (List.mem_of_getElem? (i := 6) rfl)
theorem m_307 : (Cond.code yX7_isParity cX7_isParity 2 (some .boolean)) ∈ ALL := A_10_in _ (List.mem_of_getElem? (i := 7) rfl)
theorem m_308 : (Cond.methodLink RX7 109 yX7_requireConstraint) ∈ ALL := A_10_in _ (List.mem_of_getElem? (i := 8) rfl)
theorem m_309 : (Cond.instanceMethod yX7_requireConstraint) ∈ ALL := A_10_in _ (List.mem_of_getElem? (i := 9) rfl)
theorem m_310 : (Cond.selects RX7 yX7_requireConstraint yX7_requireConstraint) ∈ ALL := A_10_in _ (List.mem_of_getElem? (i := 10) rfl)
theorem m_311 : (Cond.methodLink RX7 112 yX1_codeAt) ∈ ALL := A_10_in _ (List.mem_of_getElem? (i := 11) rfl)
theorem m_312 : (Cond.methodLink RX7 116 yX7_isParityCode) ∈ ALL := A_10_in _ (List.mem_of_getElem? (i := 12) rfl)
theorem m_313 : (Cond.code yX7_variables cX7_variables 2 (some .int)) ∈ ALL := A_10_in _ (List.mem_of_getElem? (i := 13) rfl)
theorem m_314 : (Cond.methodLink RX7 120 yX7_firstPart) ∈ ALL := A_10_in _ (List.mem_of_getElem? (i := 14) rfl)
theorem m_315 : (Cond.code yX7_secondPart cX7_secondPart 1 (some .int)) ∈ ALL := A_10_in _ (List.mem_of_getElem? (i := 15) rfl)
theorem m_316 : (Cond.code yX7_negated cX7_negated 2 (some .int)) ∈ ALL := A_10_in _ (List.mem_of_getElem? (i := 16) rfl)
theorem m_317 : (Cond.methodLink RX7 123 yX7_secondPart) ∈ ALL := A_10_in _ (List.mem_of_getElem? (i := 17) rfl)
theorem m_318 : (Cond.static yX7_secondPart) ∈ ALL := A_10_in _ (List.mem_of_getElem? (i := 18) rfl)
theorem m_319 : (Cond.code yX7_isSet cX7_isSet 1 (some .boolean)) ∈ ALL := A_10_in _ (List.mem_of_getElem? (i := 19) rfl)
theorem m_320 : (Cond.code yX7_requireClause cX7_requireClause 2 none) ∈ ALL := A_10_in _ (List.mem_of_getElem? (i := 20) rfl)
theorem m_321 : (Cond.methodLink RX7 308 yX7_isSet) ∈ ALL := A_10_in _ (List.mem_of_getElem? (i := 21) rfl)
theorem m_322 : (Cond.static yX7_isSet) ∈ ALL := A_10_in _ (List.mem_of_getElem? (i := 22) rfl)
theorem m_323 : (Cond.code yX7_requireRoom cX7_requireRoom 1 none) ∈ ALL := A_10_in _ (List.mem_of_getElem? (i := 23) rfl)
theorem m_324 : (Cond.methodLink RX7 260 yX1_isFull) ∈ ALL := A_10_in _ (List.mem_of_getElem? (i := 24) rfl)
theorem m_325 : (Cond.methodLink RX7 146 yX3_remember) ∈ ALL := A_10_in _ (List.mem_of_getElem? (i := 25) rfl)
theorem m_326 : (Cond.instanceMethod yX3_remember) ∈ ALL := A_10_in _ (List.mem_of_getElem? (i := 26) rfl)
theorem m_327 : (Cond.selects RX3 yX3_remember yX3_remember) ∈ ALL := A_10_in _ (List.mem_of_getElem? (i := 27) rfl)
theorem m_328 : (Cond.methodLink RX7 282 yX1_add) ∈ ALL := A_10_in _ (List.mem_of_getElem? (i := 28) rfl)
theorem m_329 : (Cond.code yX7_addConstraint cX7_addConstraint 2 (some .int)) ∈ ALL := A_10_in _ (List.mem_of_getElem? (i := 29) rfl)
theorem m_330 : (Cond.methodLink RX7 126 yX7_requireClause) ∈ ALL := A_11_in _ (List.mem_of_getElem? (i := 0) rfl)
theorem m_331 : (Cond.static yX7_requireClause) ∈ ALL := A_11_in _ (List.mem_of_getElem? (i := 1) rfl)
theorem m_332 : (Cond.methodLink RX7 130 yX7_requireRoom) ∈ ALL := A_11_in _ (List.mem_of_getElem? (i := 2) rfl)
theorem m_333 : (Cond.instanceMethod yX7_requireRoom) ∈ ALL := A_11_in _ (List.mem_of_getElem? (i := 3) rfl)
theorem m_334 : (Cond.selects RX7 yX7_requireRoom yX7_requireRoom) ∈ ALL := A_11_in _ (List.mem_of_getElem? (i := 4) rfl)
theorem m_335 : (Cond.methodLink RX7 133 yX7_clauseCode) ∈ ALL := A_11_in _ (List.mem_of_getElem? (i := 5) rfl)
theorem m_336 : (Cond.methodLink RX7 137 yX7_addConstraint) ∈ ALL := A_11_in _ (List.mem_of_getElem? (i := 6) rfl)
theorem m_337 : (Cond.instanceMethod yX7_addConstraint) ∈ ALL := A_11_in _ (List.mem_of_getElem? (i := 7) rfl)
theorem m_338 : (Cond.selects RX7 yX7_addConstraint yX7_addConstraint) ∈ ALL := A_11_in _ (List.mem_of_getElem? (i := 8) rfl)
theorem m_339 : (Cond.code yX7_addClause cX7_addClause 3 (some .int)) ∈ ALL := A_11_in _ (List.mem_of_getElem? (i := 9) rfl)
theorem m_340 : (Cond.code yX7_requireParity cX7_requireParity 2 none) ∈ ALL := A_11_in _ (List.mem_of_getElem? (i := 10) rfl)
theorem m_341 : (Cond.methodLink RX7 140 yX7_requireParity) ∈ ALL := A_11_in _ (List.mem_of_getElem? (i := 11) rfl)
theorem m_342 : (Cond.static yX7_requireParity) ∈ ALL := A_11_in _ (List.mem_of_getElem? (i := 12) rfl)
theorem m_343 : (Cond.methodLink RX7 143 yX7_parityCode) ∈ ALL := A_11_in _ (List.mem_of_getElem? (i := 13) rfl)
theorem m_344 : (Cond.code yX7_addParity cX7_addParity 3 (some .int)) ∈ ALL := A_11_in _ (List.mem_of_getElem? (i := 14) rfl)
theorem m_345 : (Cond.methodLink RX7 150 yX1_removeAt) ∈ ALL := A_11_in _ (List.mem_of_getElem? (i := 15) rfl)
theorem m_346 : (Cond.instanceMethod yX1_removeAt) ∈ ALL := A_11_in _ (List.mem_of_getElem? (i := 16) rfl)
theorem m_347 : (Cond.selects RX1 yX1_removeAt yX1_removeAt) ∈ ALL := A_11_in _ (List.mem_of_getElem? (i := 17) rfl)
theorem m_348 : (Cond.code yX7_removeConstraint cX7_removeConstraint 2 (some .int)) ∈ ALL := A_11_in _ (List.mem_of_getElem? (i := 18) rfl)
theorem m_349 : (Cond.code yX7_requireVariable cX7_requireVariable 1 none) ∈ ALL := A_11_in _ (List.mem_of_getElem? (i := 19) rfl)
theorem m_350 : (Cond.methodLink RX7 301 yX7_isVariable) ∈ ALL := A_11_in _ (List.mem_of_getElem? (i := 20) rfl)
theorem m_351 : (Cond.methodLink RX7 153 yX7_requireVariable) ∈ ALL := A_11_in _ (List.mem_of_getElem? (i := 21) rfl)
theorem m_352 : (Cond.static yX7_requireVariable) ∈ ALL := A_11_in _ (List.mem_of_getElem? (i := 22) rfl)
theorem m_353 : (Cond.code yX7_resolve cX7_resolve 9 (some .int)) ∈ ALL := A_11_in _ (List.mem_of_getElem? (i := 23) rfl)
theorem m_354 : (Cond.code yX7_sum cX7_sum 7 (some .int)) ∈ ALL := A_11_in _ (List.mem_of_getElem? (i := 24) rfl)
theorem m_355 : (Cond.methodLink RX7 174 yX7_variableOf) ∈ ALL := A_11_in _ (List.mem_of_getElem? (i := 25) rfl)
theorem m_356 : (Cond.methodLink RX7 177 yX6_isAssigned) ∈ ALL := A_11_in _ (List.mem_of_getElem? (i := 26) rfl)
theorem m_357 : (Cond.methodLink RX7 182 yX5_addDecision) ∈ ALL := A_11_in _ (List.mem_of_getElem? (i := 27) rfl)
theorem m_358 : (Cond.instanceMethod yX5_addDecision) ∈ ALL := A_11_in _ (List.mem_of_getElem? (i := 28) rfl)
theorem m_359 : (Cond.selects RX5 yX5_addDecision yX5_addDecision) ∈ ALL := A_11_in _ (List.mem_of_getElem? (i := 29) rfl)
theorem m_360 : (Cond.code yX7_decide cX7_decide 2 (some .int)) ∈ ALL := A_12_in _ (List.mem_of_getElem? (i := 0) rfl)
theorem m_361 : (Cond.code yX7_backtrack cX7_backtrack 2 (some .int)) ∈ ALL := A_12_in _ (List.mem_of_getElem? (i := 1) rfl)
theorem m_362 : (Cond.code yX7_requireAnalysis cX7_requireAnalysis 1 none) ∈ ALL := A_12_in _ (List.mem_of_getElem? (i := 2) rfl)
theorem m_363 : (Cond.methodLink RX7 217 yX6_learnedVariables) ∈ ALL := A_12_in _ (List.mem_of_getElem? (i := 3) rfl)
theorem m_364 : (Cond.instanceMethod yX6_learnedVariables) ∈ ALL := A_12_in _ (List.mem_of_getElem? (i := 4) rfl)
theorem m_365 : (Cond.selects RX6 yX6_learnedVariables yX6_learnedVariables) ∈ ALL := A_12_in _ (List.mem_of_getElem? (i := 5) rfl)
theorem m_366 : (Cond.methodLink RX7 285 yX6_backjumpLevel) ∈ ALL := A_12_in _ (List.mem_of_getElem? (i := 6) rfl)
theorem m_367 : (Cond.instanceMethod yX6_backjumpLevel) ∈ ALL := A_12_in _ (List.mem_of_getElem? (i := 7) rfl)
theorem m_368 : (Cond.selects RX6 yX6_backjumpLevel yX6_backjumpLevel) ∈ ALL := A_12_in _ (List.mem_of_getElem? (i := 8) rfl)
theorem m_369 : (Cond.methodLink RX7 221 yX6_falseClause) ∈ ALL := A_12_in _ (List.mem_of_getElem? (i := 9) rfl)
theorem m_370 : (Cond.instanceMethod yX6_falseClause) ∈ ALL := A_12_in _ (List.mem_of_getElem? (i := 10) rfl)
theorem m_371 : (Cond.selects RX6 yX6_falseClause yX6_falseClause) ∈ ALL := A_12_in _ (List.mem_of_getElem? (i := 11) rfl)
theorem m_372 : (Cond.code yX7_learnInto cX7_learnInto 4 (some .int)) ∈ ALL := A_12_in _ (List.mem_of_getElem? (i := 12) rfl)
theorem m_373 : (Cond.methodLink RX7 191 yX7_requireAnalysis) ∈ ALL := A_12_in _ (List.mem_of_getElem? (i := 13) rfl)
theorem m_374 : (Cond.instanceMethod yX7_requireAnalysis) ∈ ALL := A_12_in _ (List.mem_of_getElem? (i := 14) rfl)
theorem m_375 : (Cond.selects RX7 yX7_requireAnalysis yX7_requireAnalysis) ∈ ALL := A_12_in _ (List.mem_of_getElem? (i := 15) rfl)
theorem m_376 : (Cond.methodLink RX7 194 yX7_learnInto) ∈ ALL := A_12_in _ (List.mem_of_getElem? (i := 16) rfl)
theorem m_377 : (Cond.static yX7_learnInto) ∈ ALL := A_12_in _ (List.mem_of_getElem? (i := 17) rfl)
theorem m_378 : (Cond.code yX7_learn cX7_learn 2 (some .int)) ∈ ALL := A_12_in _ (List.mem_of_getElem? (i := 18) rfl)
theorem m_379 : (Cond.methodLink RX7 203 yX3_takeBack) ∈ ALL := A_12_in _ (List.mem_of_getElem? (i := 19) rfl)
theorem m_380 : (Cond.instanceMethod yX3_takeBack) ∈ ALL := A_12_in _ (List.mem_of_getElem? (i := 20) rfl)
theorem m_381 : (Cond.selects RX3 yX3_takeBack yX3_takeBack) ∈ ALL := A_12_in _ (List.mem_of_getElem? (i := 21) rfl)
theorem m_382 : (Cond.code yX7_undo cX7_undo 1 (some .int)) ∈ ALL := A_12_in _ (List.mem_of_getElem? (i := 22) rfl)
theorem m_383 : (Cond.code yX7_level cX7_level 1 (some .int)) ∈ ALL := A_12_in _ (List.mem_of_getElem? (i := 23) rfl)
theorem m_384 : (Cond.code yX7_value cX7_value 2 (some .int)) ∈ ALL := A_12_in _ (List.mem_of_getElem? (i := 24) rfl)
theorem m_385 : (Cond.methodLink RX7 206 yX6_isTrue) ∈ ALL := A_12_in _ (List.mem_of_getElem? (i := 25) rfl)
theorem m_386 : (Cond.code yX7_trailLiteral cX7_trailLiteral 2 (some .int)) ∈ ALL := A_12_in _ (List.mem_of_getElem? (i := 26) rfl)
theorem m_387 : (Cond.methodLink RX7 211 yX6_literalAt) ∈ ALL := A_12_in _ (List.mem_of_getElem? (i := 27) rfl)
theorem m_388 : (Cond.instanceMethod yX6_literalAt) ∈ ALL := A_12_in _ (List.mem_of_getElem? (i := 28) rfl)
theorem m_389 : (Cond.selects RX6 yX6_literalAt yX6_literalAt) ∈ ALL := A_12_in _ (List.mem_of_getElem? (i := 29) rfl)
theorem m_390 : (Cond.code yX7_reason cX7_reason 2 (some .int)) ∈ ALL := A_13_in _ (List.mem_of_getElem? (i := 0) rfl)
theorem m_391 : (Cond.methodLink RX7 214 yX6_reasonOf) ∈ ALL := A_13_in _ (List.mem_of_getElem? (i := 1) rfl)
theorem m_392 : (Cond.code yX7_conflict cX7_conflict 1 (some .int)) ∈ ALL := A_13_in _ (List.mem_of_getElem? (i := 2) rfl)
theorem m_393 : (Cond.code yX7_learnedClause cX7_learnedClause 1 (some .int)) ∈ ALL := A_13_in _ (List.mem_of_getElem? (i := 3) rfl)
theorem m_394 : (Cond.methodLink RX7 224 yX4_refresh) ∈ ALL := A_13_in _ (List.mem_of_getElem? (i := 4) rfl)
theorem m_395 : (Cond.instanceMethod yX4_refresh) ∈ ALL := A_13_in _ (List.mem_of_getElem? (i := 5) rfl)
theorem m_396 : (Cond.selects RX4 yX4_refresh yX4_refresh) ∈ ALL := A_13_in _ (List.mem_of_getElem? (i := 6) rfl)
theorem m_397 : (Cond.methodLink RX7 227 yX4_countModels) ∈ ALL := A_13_in _ (List.mem_of_getElem? (i := 7) rfl)
theorem m_398 : (Cond.instanceMethod yX4_countModels) ∈ ALL := A_13_in _ (List.mem_of_getElem? (i := 8) rfl)
theorem m_399 : (Cond.selects RX4 yX4_countModels yX4_countModels) ∈ ALL := A_13_in _ (List.mem_of_getElem? (i := 9) rfl)
theorem m_400 : (Cond.code yX7_modelCount cX7_modelCount 1 (some .int)) ∈ ALL := A_13_in _ (List.mem_of_getElem? (i := 10) rfl)
theorem m_401 : (Cond.methodLink RX7 230 yX4_modelAt) ∈ ALL := A_13_in _ (List.mem_of_getElem? (i := 11) rfl)
theorem m_402 : (Cond.instanceMethod yX4_modelAt) ∈ ALL := A_13_in _ (List.mem_of_getElem? (i := 12) rfl)
theorem m_403 : (Cond.selects RX4 yX4_modelAt yX4_modelAt) ∈ ALL := A_13_in _ (List.mem_of_getElem? (i := 13) rfl)
theorem m_404 : (Cond.code yX7_model cX7_model 2 (some .int)) ∈ ALL := A_13_in _ (List.mem_of_getElem? (i := 14) rfl)
theorem m_405 : (Cond.methodLink RX7 233 yX4_allSatisfy) ∈ ALL := A_13_in _ (List.mem_of_getElem? (i := 15) rfl)
theorem m_406 : (Cond.instanceMethod yX4_allSatisfy) ∈ ALL := A_13_in _ (List.mem_of_getElem? (i := 16) rfl)
theorem m_407 : (Cond.selects RX4 yX4_allSatisfy yX4_allSatisfy) ∈ ALL := A_13_in _ (List.mem_of_getElem? (i := 17) rfl)
theorem m_408 : (Cond.code yX7_impliesClause cX7_impliesClause 3 (some .boolean)) ∈ ALL := A_13_in _ (List.mem_of_getElem? (i := 18) rfl)
theorem m_409 : (Cond.code yX7_impliesParity cX7_impliesParity 3 (some .boolean)) ∈ ALL := A_13_in _ (List.mem_of_getElem? (i := 19) rfl)
theorem m_410 : (Cond.methodLink RX7 236 yX4_canSatisfy) ∈ ALL := A_13_in _ (List.mem_of_getElem? (i := 20) rfl)
theorem m_411 : (Cond.instanceMethod yX4_canSatisfy) ∈ ALL := A_13_in _ (List.mem_of_getElem? (i := 21) rfl)
theorem m_412 : (Cond.selects RX4 yX4_canSatisfy yX4_canSatisfy) ∈ ALL := A_13_in _ (List.mem_of_getElem? (i := 22) rfl)
theorem m_413 : (Cond.code yX7_core cX7_core 4 (some .int)) ∈ ALL := A_13_in _ (List.mem_of_getElem? (i := 23) rfl)
theorem m_414 : (Cond.methodLink RX7 239 yX0_run) ∈ ALL := A_13_in _ (List.mem_of_getElem? (i := 24) rfl)
theorem m_415 : (Cond.instanceMethod yX0_run) ∈ ALL := A_13_in _ (List.mem_of_getElem? (i := 25) rfl)
theorem m_416 : (Cond.selects RX0 yX0_run yX0_run) ∈ ALL := A_13_in _ (List.mem_of_getElem? (i := 26) rfl)
theorem m_417 : (Cond.code yX7_rank cX7_rank 1 (some .int)) ∈ ALL := A_13_in _ (List.mem_of_getElem? (i := 27) rfl)
theorem m_418 : (Cond.code yX7_isConsistent cX7_isConsistent 1 (some .boolean)) ∈ ALL := A_13_in _ (List.mem_of_getElem? (i := 28) rfl)
theorem m_419 : (Cond.methodLink RX7 251 yX0_rowAt) ∈ ALL := A_13_in _ (List.mem_of_getElem? (i := 29) rfl)
theorem m_420 : (Cond.instanceMethod yX0_rowAt) ∈ ALL := A_14_in _ (List.mem_of_getElem? (i := 0) rfl)
theorem m_421 : (Cond.selects RX0 yX0_rowAt yX0_rowAt) ∈ ALL := A_14_in _ (List.mem_of_getElem? (i := 1) rfl)
theorem m_422 : (Cond.code yX7_eliminatedRow cX7_eliminatedRow 2 (some .int)) ∈ ALL := A_14_in _ (List.mem_of_getElem? (i := 2) rfl)
theorem m_423 : (Cond.methodLink RX7 288 yX7_literalOf) ∈ ALL := A_14_in _ (List.mem_of_getElem? (i := 3) rfl)
theorem m_424 : (Cond.code yX7_decideOpenVariables cX7_decideOpenVariables 2 none) ∈ ALL := A_14_in _ (List.mem_of_getElem? (i := 4) rfl)
theorem m_425 : (Cond.methodLink RX7 257 yX7_decideOpenVariables) ∈ ALL := A_14_in _ (List.mem_of_getElem? (i := 5) rfl)
theorem m_426 : (Cond.instanceMethod yX7_decideOpenVariables) ∈ ALL := A_14_in _ (List.mem_of_getElem? (i := 6) rfl)
theorem m_427 : (Cond.selects RX7 yX7_decideOpenVariables yX7_decideOpenVariables) ∈ ALL := A_14_in _ (List.mem_of_getElem? (i := 7) rfl)
theorem m_428 : (Cond.code yX7_solve cX7_solve 2 (some .int)) ∈ ALL := A_14_in _ (List.mem_of_getElem? (i := 8) rfl)
theorem m_429 : (Cond.code yX7_requireSlot cX7_requireSlot 1 none) ∈ ALL := A_14_in _ (List.mem_of_getElem? (i := 9) rfl)
theorem m_430 : (Cond.methodLink RX7 264 yX7_requireSlot) ∈ ALL := A_14_in _ (List.mem_of_getElem? (i := 10) rfl)
theorem m_431 : (Cond.static yX7_requireSlot) ∈ ALL := A_14_in _ (List.mem_of_getElem? (i := 11) rfl)
theorem m_432 : (Cond.methodLink RX7 267 yX3_fillSlot) ∈ ALL := A_14_in _ (List.mem_of_getElem? (i := 12) rfl)
theorem m_433 : (Cond.instanceMethod yX3_fillSlot) ∈ ALL := A_14_in _ (List.mem_of_getElem? (i := 13) rfl)
theorem m_434 : (Cond.selects RX3 yX3_fillSlot yX3_fillSlot) ∈ ALL := A_14_in _ (List.mem_of_getElem? (i := 14) rfl)
theorem m_435 : (Cond.code yX7_save cX7_save 2 (some .int)) ∈ ALL := A_14_in _ (List.mem_of_getElem? (i := 15) rfl)
theorem m_436 : (Cond.methodLink RX7 271 yX3_isFilled) ∈ ALL := A_14_in _ (List.mem_of_getElem? (i := 16) rfl)
theorem m_437 : (Cond.methodLink RX7 276 yX3_copySlot) ∈ ALL := A_14_in _ (List.mem_of_getElem? (i := 17) rfl)
theorem m_438 : (Cond.instanceMethod yX3_copySlot) ∈ ALL := A_14_in _ (List.mem_of_getElem? (i := 18) rfl)
theorem m_439 : (Cond.selects RX3 yX3_copySlot yX3_copySlot) ∈ ALL := A_14_in _ (List.mem_of_getElem? (i := 19) rfl)
theorem m_440 : (Cond.code yX7_restore cX7_restore 2 (some .int)) ∈ ALL := A_14_in _ (List.mem_of_getElem? (i := 20) rfl)
theorem m_441 : (Cond.code yX8_init cX8_init 2 none) ∈ ALL := A_14_in _ (List.mem_of_getElem? (i := 21) rfl)
theorem m_442 : (Cond.methodLink RX8 1 objectInit) ∈ ALL := A_14_in _ (List.mem_of_getElem? (i := 22) rfl)
theorem m_443 : (Cond.fieldLink RX8 7 "CnfXorSolverModel" "now" "[I") ∈ ALL := A_14_in _ (List.mem_of_getElem? (i := 23) rfl)
theorem m_444 : (Cond.fieldLink RX8 13 "CnfXorSolverModel" "trial" "[I") ∈ ALL := A_14_in _ (List.mem_of_getElem? (i := 24) rfl)
theorem m_445 : (Cond.fieldLink RX8 16 "CnfXorSolverModel" "diary" "[I") ∈ ALL := A_14_in _ (List.mem_of_getElem? (i := 25) rfl)
theorem m_446 : (Cond.fieldLink RX8 19 "CnfXorSolverModel" "kept" "[I") ∈ ALL := A_14_in _ (List.mem_of_getElem? (i := 26) rfl)
theorem m_447 : (Cond.fieldLink RX8 22 "CnfXorSolverModel" "isKept" "[Z") ∈ ALL := A_14_in _ (List.mem_of_getElem? (i := 27) rfl)
theorem m_448 : (Cond.fieldLink RX8 26 "CnfXorSolverModel" "trail" "[I") ∈ ALL := A_14_in _ (List.mem_of_getElem? (i := 28) rfl)
theorem m_449 : (Cond.fieldLink RX8 29 "CnfXorSolverModel" "levelOf" "[I") ∈ ALL := A_14_in _ (List.mem_of_getElem? (i := 29) rfl)
theorem m_450 : (Cond.fieldLink RX8 32 "CnfXorSolverModel" "reasonOf" "[I") ∈ ALL := A_15_in _ (List.mem_of_getElem? (i := 0) rfl)
theorem m_451 : (Cond.fieldLink RX8 35 "CnfXorSolverModel" "placeOf" "[I") ∈ ALL := A_15_in _ (List.mem_of_getElem? (i := 1) rfl)
theorem m_452 : (Cond.fieldLink RX8 38 "CnfXorSolverModel" "conflict" "I") ∈ ALL := A_15_in _ (List.mem_of_getElem? (i := 2) rfl)
theorem m_453 : (Cond.fieldLink RX8 42 "CnfXorSolverModel" "script" "[I") ∈ ALL := A_15_in _ (List.mem_of_getElem? (i := 3) rfl)
theorem m_454 : (Cond.fieldLink RX8 45 "CnfXorSolverModel" "read" "[I") ∈ ALL := A_15_in _ (List.mem_of_getElem? (i := 4) rfl)
theorem m_455 : (Cond.fieldLink RX8 48 "CnfXorSolverModel" "lines" "[I") ∈ ALL := A_15_in _ (List.mem_of_getElem? (i := 5) rfl)
theorem m_456 : (Cond.code yX8_thrown cX8_thrown 1 (some .int)) ∈ ALL := A_15_in _ (List.mem_of_getElem? (i := 6) rfl)
theorem m_457 : (Cond.fieldLink RX8 51 "CnfXorSolverModel" "refusal" "I") ∈ ALL := A_15_in _ (List.mem_of_getElem? (i := 7) rfl)
theorem m_458 : (Cond.code yX8_refused cX8_refused 2 (some .boolean)) ∈ ALL := A_15_in _ (List.mem_of_getElem? (i := 8) rfl)
theorem m_459 : (Cond.code yX8_in cX8_in 6 (some .boolean)) ∈ ALL := A_15_in _ (List.mem_of_getElem? (i := 9) rfl)
theorem m_460 : (Cond.code yX8_has cX8_has 2 (some .boolean)) ∈ ALL := A_15_in _ (List.mem_of_getElem? (i := 10) rfl)
theorem m_461 : (Cond.code yX8_bits cX8_bits 3 (some .int)) ∈ ALL := A_15_in _ (List.mem_of_getElem? (i := 11) rfl)
theorem m_462 : (Cond.code yX8_lowest cX8_lowest 2 (some .int)) ∈ ALL := A_15_in _ (List.mem_of_getElem? (i := 12) rfl)
theorem m_463 : (Cond.methodLink RX8 54 yX8_has) ∈ ALL := A_15_in _ (List.mem_of_getElem? (i := 13) rfl)
theorem m_464 : (Cond.static yX8_has) ∈ ALL := A_15_in _ (List.mem_of_getElem? (i := 14) rfl)
theorem m_465 : (Cond.initialized RX8) ∈ ALL := A_15_in _ (List.mem_of_getElem? (i := 15) rfl)
theorem m_466 : (Cond.code yX8_copy cX8_copy 3 none) ∈ ALL := A_15_in _ (List.mem_of_getElem? (i := 16) rfl)
theorem m_467 : (Cond.code yX8_variablesOf cX8_variablesOf 2 (some .int)) ∈ ALL := A_15_in _ (List.mem_of_getElem? (i := 17) rfl)
theorem m_468 : (Cond.code yX8_isSatisfied cX8_isSatisfied 3 (some .boolean)) ∈ ALL := A_15_in _ (List.mem_of_getElem? (i := 18) rfl)
theorem m_469 : (Cond.methodLink RX8 58 yX8_bits) ∈ ALL := A_15_in _ (List.mem_of_getElem? (i := 19) rfl)
theorem m_470 : (Cond.static yX8_bits) ∈ ALL := A_15_in _ (List.mem_of_getElem? (i := 20) rfl)
theorem m_471 : (Cond.code yX8_addTo cX8_addTo 5 none) ∈ ALL := A_15_in _ (List.mem_of_getElem? (i := 21) rfl)
theorem m_472 : (Cond.code yX8_assign cX8_assign 4 none) ∈ ALL := A_15_in _ (List.mem_of_getElem? (i := 22) rfl)
theorem m_473 : (Cond.fieldLink RX8 62 "CnfXorSolverModel" "assigned" "I") ∈ ALL := A_15_in _ (List.mem_of_getElem? (i := 23) rfl)
theorem m_474 : (Cond.fieldLink RX8 65 "CnfXorSolverModel" "trues" "I") ∈ ALL := A_15_in _ (List.mem_of_getElem? (i := 24) rfl)
theorem m_475 : (Cond.fieldLink RX8 68 "CnfXorSolverModel" "trailSize" "I") ∈ ALL := A_15_in _ (List.mem_of_getElem? (i := 25) rfl)
theorem m_476 : (Cond.fieldLink RX8 71 "CnfXorSolverModel" "level" "I") ∈ ALL := A_15_in _ (List.mem_of_getElem? (i := 26) rfl)
theorem m_477 : (Cond.code yX8_stateOf cX8_stateOf 5 (some .int)) ∈ ALL := A_15_in _ (List.mem_of_getElem? (i := 27) rfl)
theorem m_478 : (Cond.methodLink RX8 74 yX8_variablesOf) ∈ ALL := A_15_in _ (List.mem_of_getElem? (i := 28) rfl)
theorem m_479 : (Cond.static yX8_variablesOf) ∈ ALL := A_15_in _ (List.mem_of_getElem? (i := 29) rfl)
theorem m_480 : (Cond.methodLink RX8 78 yX8_isSatisfied) ∈ ALL := A_16_in _ (List.mem_of_getElem? (i := 0) rfl)
theorem m_481 : (Cond.static yX8_isSatisfied) ∈ ALL := A_16_in _ (List.mem_of_getElem? (i := 1) rfl)
theorem m_482 : (Cond.methodLink RX8 82 yX8_stateOf) ∈ ALL := A_16_in _ (List.mem_of_getElem? (i := 2) rfl)
theorem m_483 : (Cond.instanceMethod yX8_stateOf) ∈ ALL := A_16_in _ (List.mem_of_getElem? (i := 3) rfl)
theorem m_484 : (Cond.selects RX8 yX8_stateOf yX8_stateOf) ∈ ALL := A_16_in _ (List.mem_of_getElem? (i := 4) rfl)
theorem m_485 : (Cond.methodLink RX8 85 yX8_lowest) ∈ ALL := A_16_in _ (List.mem_of_getElem? (i := 5) rfl)
theorem m_486 : (Cond.static yX8_lowest) ∈ ALL := A_16_in _ (List.mem_of_getElem? (i := 6) rfl)
theorem m_487 : (Cond.methodLink RX8 88 yX8_assign) ∈ ALL := A_16_in _ (List.mem_of_getElem? (i := 7) rfl)
theorem m_488 : (Cond.instanceMethod yX8_assign) ∈ ALL := A_16_in _ (List.mem_of_getElem? (i := 8) rfl)
theorem m_489 : (Cond.selects RX8 yX8_assign yX8_assign) ∈ ALL := A_16_in _ (List.mem_of_getElem? (i := 9) rfl)
theorem m_490 : (Cond.code yX8_propagate cX8_propagate 6 none) ∈ ALL := A_16_in _ (List.mem_of_getElem? (i := 10) rfl)
theorem m_491 : (Cond.methodLink RX8 92 yX8_propagate) ∈ ALL := A_16_in _ (List.mem_of_getElem? (i := 11) rfl)
theorem m_492 : (Cond.instanceMethod yX8_propagate) ∈ ALL := A_16_in _ (List.mem_of_getElem? (i := 12) rfl)
theorem m_493 : (Cond.selects RX8 yX8_propagate yX8_propagate) ∈ ALL := A_16_in _ (List.mem_of_getElem? (i := 13) rfl)
theorem m_494 : (Cond.code yX8_build cX8_build 5 none) ∈ ALL := A_16_in _ (List.mem_of_getElem? (i := 14) rfl)
theorem m_495 : (Cond.fieldLink RX8 96 "CnfXorSolverModel" "next" "I") ∈ ALL := A_16_in _ (List.mem_of_getElem? (i := 15) rfl)
theorem m_496 : (Cond.fieldLink RX8 99 "CnfXorSolverModel" "acts" "I") ∈ ALL := A_16_in _ (List.mem_of_getElem? (i := 16) rfl)
theorem m_497 : (Cond.methodLink RX8 102 yX8_copy) ∈ ALL := A_16_in _ (List.mem_of_getElem? (i := 17) rfl)
theorem m_498 : (Cond.static yX8_copy) ∈ ALL := A_16_in _ (List.mem_of_getElem? (i := 18) rfl)
theorem m_499 : (Cond.methodLink RX8 106 yX8_build) ∈ ALL := A_16_in _ (List.mem_of_getElem? (i := 19) rfl)
theorem m_500 : (Cond.instanceMethod yX8_build) ∈ ALL := A_16_in _ (List.mem_of_getElem? (i := 20) rfl)
theorem m_501 : (Cond.selects RX8 yX8_build yX8_build) ∈ ALL := A_16_in _ (List.mem_of_getElem? (i := 21) rfl)
theorem m_502 : (Cond.code yX8_act cX8_act 2 none) ∈ ALL := A_16_in _ (List.mem_of_getElem? (i := 22) rfl)
theorem m_503 : (Cond.code yX8_append cX8_append 2 (some .int)) ∈ ALL := A_16_in _ (List.mem_of_getElem? (i := 23) rfl)
theorem m_504 : (Cond.constantLong RX8 109 (255)) ∈ ALL := A_16_in _ (List.mem_of_getElem? (i := 24) rfl)
theorem m_505 : (Cond.fieldLink RX8 115 "CnfXorSolverModel" "scriptSize" "I") ∈ ALL := A_16_in _ (List.mem_of_getElem? (i := 25) rfl)
theorem m_506 : (Cond.methodLink RX8 111 yX8_in) ∈ ALL := A_16_in _ (List.mem_of_getElem? (i := 26) rfl)
theorem m_507 : (Cond.static yX8_in) ∈ ALL := A_16_in _ (List.mem_of_getElem? (i := 27) rfl)
theorem m_508 : (Cond.methodLink RX8 118 yX8_refused) ∈ ALL := A_16_in _ (List.mem_of_getElem? (i := 28) rfl)
theorem m_509 : (Cond.instanceMethod yX8_refused) ∈ ALL := A_16_in _ (List.mem_of_getElem? (i := 29) rfl)
theorem m_510 : (Cond.selects RX8 yX8_refused yX8_refused) ∈ ALL := A_17_in _ (List.mem_of_getElem? (i := 0) rfl)
theorem m_511 : (Cond.code yX8_clearText cX8_clearText 2 (some .int)) ∈ ALL := A_17_in _ (List.mem_of_getElem? (i := 1) rfl)
theorem m_512 : (Cond.code yX8_character cX8_character 1 (some .int)) ∈ ALL := A_17_in _ (List.mem_of_getElem? (i := 2) rfl)
theorem m_513 : (Cond.fieldLink RX8 122 "CnfXorSolverModel" "spot" "I") ∈ ALL := A_17_in _ (List.mem_of_getElem? (i := 3) rfl)
theorem m_514 : (Cond.code yX8_readParity cX8_readParity 3 (some .boolean)) ∈ ALL := A_17_in _ (List.mem_of_getElem? (i := 4) rfl)
theorem m_515 : (Cond.constantLong RX8 129 (97)) ∈ ALL := A_17_in _ (List.mem_of_getElem? (i := 5) rfl)
theorem m_516 : (Cond.constantLong RX8 131 (104)) ∈ ALL := A_17_in _ (List.mem_of_getElem? (i := 6) rfl)
theorem m_517 : (Cond.methodLink RX8 125 yX8_character) ∈ ALL := A_17_in _ (List.mem_of_getElem? (i := 7) rfl)
theorem m_518 : (Cond.instanceMethod yX8_character) ∈ ALL := A_17_in _ (List.mem_of_getElem? (i := 8) rfl)
theorem m_519 : (Cond.selects RX8 yX8_character yX8_character) ∈ ALL := A_17_in _ (List.mem_of_getElem? (i := 9) rfl)
theorem m_520 : (Cond.methodLink RX8 133 yX8_addTo) ∈ ALL := A_17_in _ (List.mem_of_getElem? (i := 10) rfl)
theorem m_521 : (Cond.static yX8_addTo) ∈ ALL := A_17_in _ (List.mem_of_getElem? (i := 11) rfl)
theorem m_522 : (Cond.code yX8_readClause cX8_readClause 6 (some .boolean)) ∈ ALL := A_17_in _ (List.mem_of_getElem? (i := 12) rfl)
theorem m_523 : (Cond.constantLong RX8 137 (65)) ∈ ALL := A_17_in _ (List.mem_of_getElem? (i := 13) rfl)
theorem m_524 : (Cond.constantLong RX8 139 (72)) ∈ ALL := A_17_in _ (List.mem_of_getElem? (i := 14) rfl)
theorem m_525 : (Cond.methodLink RX8 141 yX8_readParity) ∈ ALL := A_17_in _ (List.mem_of_getElem? (i := 15) rfl)
theorem m_526 : (Cond.instanceMethod yX8_readParity) ∈ ALL := A_17_in _ (List.mem_of_getElem? (i := 16) rfl)
theorem m_527 : (Cond.selects RX8 yX8_readParity yX8_readParity) ∈ ALL := A_17_in _ (List.mem_of_getElem? (i := 17) rfl)
theorem m_528 : (Cond.methodLink RX8 145 yX8_readClause) ∈ ALL := A_17_in _ (List.mem_of_getElem? (i := 18) rfl)
theorem m_529 : (Cond.instanceMethod yX8_readClause) ∈ ALL := A_17_in _ (List.mem_of_getElem? (i := 19) rfl)
theorem m_530 : (Cond.selects RX8 yX8_readClause yX8_readClause) ∈ ALL := A_17_in _ (List.mem_of_getElem? (i := 20) rfl)
theorem m_531 : (Cond.code yX8_readText cX8_readText 2 (some .int)) ∈ ALL := A_17_in _ (List.mem_of_getElem? (i := 21) rfl)
theorem m_532 : (Cond.methodLink RX8 148 yX8_readText) ∈ ALL := A_17_in _ (List.mem_of_getElem? (i := 22) rfl)
theorem m_533 : (Cond.instanceMethod yX8_readText) ∈ ALL := A_17_in _ (List.mem_of_getElem? (i := 23) rfl)
theorem m_534 : (Cond.selects RX8 yX8_readText yX8_readText) ∈ ALL := A_17_in _ (List.mem_of_getElem? (i := 24) rfl)
theorem m_535 : (Cond.code yX8_errorPosition cX8_errorPosition 1 (some .int)) ∈ ALL := A_17_in _ (List.mem_of_getElem? (i := 25) rfl)
theorem m_536 : (Cond.code yX8_load cX8_load 1 (some .int)) ∈ ALL := A_17_in _ (List.mem_of_getElem? (i := 26) rfl)
theorem m_537 : (Cond.code yX8_isConstraint cX8_isConstraint 2 (some .boolean)) ∈ ALL := A_17_in _ (List.mem_of_getElem? (i := 27) rfl)
theorem m_538 : (Cond.code yX8_constraintCount cX8_constraintCount 1 (some .int)) ∈ ALL := A_17_in _ (List.mem_of_getElem? (i := 28) rfl)
theorem m_539 : (Cond.code yX8_isParity cX8_isParity 2 (some .boolean)) ∈ ALL := A_17_in _ (List.mem_of_getElem? (i := 29) rfl)
theorem m_540 : (Cond.methodLink RX8 151 yX8_isConstraint) ∈ ALL := A_18_in _ (List.mem_of_getElem? (i := 0) rfl)
theorem m_541 : (Cond.instanceMethod yX8_isConstraint) ∈ ALL := A_18_in _ (List.mem_of_getElem? (i := 1) rfl)
theorem m_542 : (Cond.selects RX8 yX8_isConstraint yX8_isConstraint) ∈ ALL := A_18_in _ (List.mem_of_getElem? (i := 2) rfl)
theorem m_543 : (Cond.code yX8_variables cX8_variables 2 (some .int)) ∈ ALL := A_18_in _ (List.mem_of_getElem? (i := 3) rfl)
theorem m_544 : (Cond.code yX8_negated cX8_negated 2 (some .int)) ∈ ALL := A_18_in _ (List.mem_of_getElem? (i := 4) rfl)
theorem m_545 : (Cond.code yX8_isClause cX8_isClause 2 (some .boolean)) ∈ ALL := A_18_in _ (List.mem_of_getElem? (i := 5) rfl)
theorem m_546 : (Cond.code yX8_isSum cX8_isSum 2 (some .boolean)) ∈ ALL := A_18_in _ (List.mem_of_getElem? (i := 6) rfl)
theorem m_547 : (Cond.methodLink RX8 154 yX8_act) ∈ ALL := A_18_in _ (List.mem_of_getElem? (i := 7) rfl)
theorem m_548 : (Cond.instanceMethod yX8_act) ∈ ALL := A_18_in _ (List.mem_of_getElem? (i := 8) rfl)
theorem m_549 : (Cond.selects RX8 yX8_act yX8_act) ∈ ALL := A_18_in _ (List.mem_of_getElem? (i := 9) rfl)
theorem m_550 : (Cond.code yX8_added cX8_added 4 (some .int)) ∈ ALL := A_18_in _ (List.mem_of_getElem? (i := 10) rfl)
theorem m_551 : (Cond.methodLink RX8 157 yX8_isClause) ∈ ALL := A_18_in _ (List.mem_of_getElem? (i := 11) rfl)
theorem m_552 : (Cond.static yX8_isClause) ∈ ALL := A_18_in _ (List.mem_of_getElem? (i := 12) rfl)
theorem m_553 : (Cond.methodLink RX8 160 yX8_added) ∈ ALL := A_18_in _ (List.mem_of_getElem? (i := 13) rfl)
theorem m_554 : (Cond.instanceMethod yX8_added) ∈ ALL := A_18_in _ (List.mem_of_getElem? (i := 14) rfl)
theorem m_555 : (Cond.selects RX8 yX8_added yX8_added) ∈ ALL := A_18_in _ (List.mem_of_getElem? (i := 15) rfl)
theorem m_556 : (Cond.code yX8_addClause cX8_addClause 3 (some .int)) ∈ ALL := A_18_in _ (List.mem_of_getElem? (i := 16) rfl)
theorem m_557 : (Cond.methodLink RX8 164 yX8_isSum) ∈ ALL := A_18_in _ (List.mem_of_getElem? (i := 17) rfl)
theorem m_558 : (Cond.static yX8_isSum) ∈ ALL := A_18_in _ (List.mem_of_getElem? (i := 18) rfl)
theorem m_559 : (Cond.code yX8_addParity cX8_addParity 3 (some .int)) ∈ ALL := A_18_in _ (List.mem_of_getElem? (i := 19) rfl)
theorem m_560 : (Cond.code yX8_removeConstraint cX8_removeConstraint 3 (some .int)) ∈ ALL := A_18_in _ (List.mem_of_getElem? (i := 20) rfl)
theorem m_561 : (Cond.constantLong RX8 167 (7)) ∈ ALL := A_18_in _ (List.mem_of_getElem? (i := 21) rfl)
theorem m_562 : (Cond.code yX8_resolve cX8_resolve 7 (some .int)) ∈ ALL := A_18_in _ (List.mem_of_getElem? (i := 22) rfl)
theorem m_563 : (Cond.code yX8_sum cX8_sum 3 (some .int)) ∈ ALL := A_18_in _ (List.mem_of_getElem? (i := 23) rfl)
theorem m_564 : (Cond.constantLong RX8 169 (15)) ∈ ALL := A_18_in _ (List.mem_of_getElem? (i := 24) rfl)
theorem m_565 : (Cond.code yX8_decide cX8_decide 2 (some .int)) ∈ ALL := A_18_in _ (List.mem_of_getElem? (i := 25) rfl)
theorem m_566 : (Cond.code yX8_backtrack cX8_backtrack 2 (some .int)) ∈ ALL := A_18_in _ (List.mem_of_getElem? (i := 26) rfl)
theorem m_567 : (Cond.code yX8_canLearn cX8_canLearn 1 (some .boolean)) ∈ ALL := A_18_in _ (List.mem_of_getElem? (i := 27) rfl)
theorem m_568 : (Cond.code yX8_atLevel cX8_atLevel 4 (some .int)) ∈ ALL := A_18_in _ (List.mem_of_getElem? (i := 28) rfl)
theorem m_569 : (Cond.code yX8_latest cX8_latest 4 (some .int)) ∈ ALL := A_18_in _ (List.mem_of_getElem? (i := 29) rfl)
theorem m_570 : (Cond.code yX8_analyse cX8_analyse 5 (some .int)) ∈ ALL := A_19_in _ (List.mem_of_getElem? (i := 0) rfl)
theorem m_571 : (Cond.fieldLink RX8 177 "CnfXorSolverModel" "learnedP" "I") ∈ ALL := A_19_in _ (List.mem_of_getElem? (i := 1) rfl)
theorem m_572 : (Cond.fieldLink RX8 180 "CnfXorSolverModel" "learnedN" "I") ∈ ALL := A_19_in _ (List.mem_of_getElem? (i := 2) rfl)
theorem m_573 : (Cond.methodLink RX8 171 yX8_atLevel) ∈ ALL := A_19_in _ (List.mem_of_getElem? (i := 3) rfl)
theorem m_574 : (Cond.instanceMethod yX8_atLevel) ∈ ALL := A_19_in _ (List.mem_of_getElem? (i := 4) rfl)
theorem m_575 : (Cond.selects RX8 yX8_atLevel yX8_atLevel) ∈ ALL := A_19_in _ (List.mem_of_getElem? (i := 5) rfl)
theorem m_576 : (Cond.methodLink RX8 174 yX8_latest) ∈ ALL := A_19_in _ (List.mem_of_getElem? (i := 6) rfl)
theorem m_577 : (Cond.instanceMethod yX8_latest) ∈ ALL := A_19_in _ (List.mem_of_getElem? (i := 7) rfl)
theorem m_578 : (Cond.selects RX8 yX8_latest yX8_latest) ∈ ALL := A_19_in _ (List.mem_of_getElem? (i := 8) rfl)
theorem m_579 : (Cond.methodLink RX8 183 yX8_canLearn) ∈ ALL := A_19_in _ (List.mem_of_getElem? (i := 9) rfl)
theorem m_580 : (Cond.instanceMethod yX8_canLearn) ∈ ALL := A_19_in _ (List.mem_of_getElem? (i := 10) rfl)
theorem m_581 : (Cond.selects RX8 yX8_canLearn yX8_canLearn) ∈ ALL := A_19_in _ (List.mem_of_getElem? (i := 11) rfl)
theorem m_582 : (Cond.methodLink RX8 186 yX8_analyse) ∈ ALL := A_19_in _ (List.mem_of_getElem? (i := 12) rfl)
theorem m_583 : (Cond.instanceMethod yX8_analyse) ∈ ALL := A_19_in _ (List.mem_of_getElem? (i := 13) rfl)
theorem m_584 : (Cond.selects RX8 yX8_analyse yX8_analyse) ∈ ALL := A_19_in _ (List.mem_of_getElem? (i := 14) rfl)
theorem m_585 : (Cond.code yX8_learn cX8_learn 2 (some .int)) ∈ ALL := A_19_in _ (List.mem_of_getElem? (i := 15) rfl)
theorem m_586 : (Cond.code yX8_undo cX8_undo 2 (some .int)) ∈ ALL := A_19_in _ (List.mem_of_getElem? (i := 16) rfl)
theorem m_587 : (Cond.code yX8_level cX8_level 1 (some .int)) ∈ ALL := A_19_in _ (List.mem_of_getElem? (i := 17) rfl)
theorem m_588 : (Cond.code yX8_value cX8_value 2 (some .int)) ∈ ALL := A_19_in _ (List.mem_of_getElem? (i := 18) rfl)
theorem m_589 : (Cond.code yX8_trailLiteral cX8_trailLiteral 2 (some .int)) ∈ ALL := A_19_in _ (List.mem_of_getElem? (i := 19) rfl)
theorem m_590 : (Cond.code yX8_reason cX8_reason 2 (some .int)) ∈ ALL := A_19_in _ (List.mem_of_getElem? (i := 20) rfl)
theorem m_591 : (Cond.code yX8_conflict cX8_conflict 1 (some .int)) ∈ ALL := A_19_in _ (List.mem_of_getElem? (i := 21) rfl)
theorem m_592 : (Cond.code yX8_learnedClause cX8_learnedClause 1 (some .int)) ∈ ALL := A_19_in _ (List.mem_of_getElem? (i := 22) rfl)
theorem m_593 : (Cond.code yX8_isModel cX8_isModel 5 (some .boolean)) ∈ ALL := A_19_in _ (List.mem_of_getElem? (i := 23) rfl)
theorem m_594 : (Cond.code yX8_everything cX8_everything 1 (some .int)) ∈ ALL := A_19_in _ (List.mem_of_getElem? (i := 24) rfl)
theorem m_595 : (Cond.code yX8_modelCount cX8_modelCount 3 (some .int)) ∈ ALL := A_19_in _ (List.mem_of_getElem? (i := 25) rfl)
theorem m_596 : (Cond.methodLink RX8 190 yX8_everything) ∈ ALL := A_19_in _ (List.mem_of_getElem? (i := 26) rfl)
theorem m_597 : (Cond.instanceMethod yX8_everything) ∈ ALL := A_19_in _ (List.mem_of_getElem? (i := 27) rfl)
theorem m_598 : (Cond.selects RX8 yX8_everything yX8_everything) ∈ ALL := A_19_in _ (List.mem_of_getElem? (i := 28) rfl)
theorem m_599 : (Cond.methodLink RX8 193 yX8_isModel) ∈ ALL := A_19_in _ (List.mem_of_getElem? (i := 29) rfl)
theorem m_600 : (Cond.instanceMethod yX8_isModel) ∈ ALL := A_20_in _ (List.mem_of_getElem? (i := 0) rfl)
theorem m_601 : (Cond.selects RX8 yX8_isModel yX8_isModel) ∈ ALL := A_20_in _ (List.mem_of_getElem? (i := 1) rfl)
theorem m_602 : (Cond.code yX8_model cX8_model 4 (some .int)) ∈ ALL := A_20_in _ (List.mem_of_getElem? (i := 2) rfl)
theorem m_603 : (Cond.code yX8_implies cX8_implies 6 (some .boolean)) ∈ ALL := A_20_in _ (List.mem_of_getElem? (i := 3) rfl)
theorem m_604 : (Cond.methodLink RX8 196 yX8_implies) ∈ ALL := A_20_in _ (List.mem_of_getElem? (i := 4) rfl)
theorem m_605 : (Cond.instanceMethod yX8_implies) ∈ ALL := A_20_in _ (List.mem_of_getElem? (i := 5) rfl)
theorem m_606 : (Cond.selects RX8 yX8_implies yX8_implies) ∈ ALL := A_20_in _ (List.mem_of_getElem? (i := 6) rfl)
theorem m_607 : (Cond.code yX8_impliesClause cX8_impliesClause 3 (some .boolean)) ∈ ALL := A_20_in _ (List.mem_of_getElem? (i := 7) rfl)
theorem m_608 : (Cond.code yX8_impliesParity cX8_impliesParity 3 (some .boolean)) ∈ ALL := A_20_in _ (List.mem_of_getElem? (i := 8) rfl)
theorem m_609 : (Cond.code yX8_hasModel cX8_hasModel 4 (some .boolean)) ∈ ALL := A_20_in _ (List.mem_of_getElem? (i := 9) rfl)
theorem m_610 : (Cond.code yX8_core cX8_core 3 (some .int)) ∈ ALL := A_20_in _ (List.mem_of_getElem? (i := 10) rfl)
theorem m_611 : (Cond.methodLink RX8 200 yX8_hasModel) ∈ ALL := A_20_in _ (List.mem_of_getElem? (i := 11) rfl)
theorem m_612 : (Cond.instanceMethod yX8_hasModel) ∈ ALL := A_20_in _ (List.mem_of_getElem? (i := 12) rfl)
theorem m_613 : (Cond.selects RX8 yX8_hasModel yX8_hasModel) ∈ ALL := A_20_in _ (List.mem_of_getElem? (i := 13) rfl)
theorem m_614 : (Cond.code yX8_eliminate cX8_eliminate 5 none) ∈ ALL := A_20_in _ (List.mem_of_getElem? (i := 14) rfl)
theorem m_615 : (Cond.fieldLink RX8 203 "CnfXorSolverModel" "lineCount" "I") ∈ ALL := A_20_in _ (List.mem_of_getElem? (i := 15) rfl)
theorem m_616 : (Cond.fieldLink RX8 206 "CnfXorSolverModel" "isSound" "Z") ∈ ALL := A_20_in _ (List.mem_of_getElem? (i := 16) rfl)
theorem m_617 : (Cond.code yX8_rank cX8_rank 1 (some .int)) ∈ ALL := A_20_in _ (List.mem_of_getElem? (i := 17) rfl)
theorem m_618 : (Cond.methodLink RX8 210 yX8_eliminate) ∈ ALL := A_20_in _ (List.mem_of_getElem? (i := 18) rfl)
theorem m_619 : (Cond.instanceMethod yX8_eliminate) ∈ ALL := A_20_in _ (List.mem_of_getElem? (i := 19) rfl)
theorem m_620 : (Cond.selects RX8 yX8_eliminate yX8_eliminate) ∈ ALL := A_20_in _ (List.mem_of_getElem? (i := 20) rfl)
theorem m_621 : (Cond.code yX8_isConsistent cX8_isConsistent 1 (some .boolean)) ∈ ALL := A_20_in _ (List.mem_of_getElem? (i := 21) rfl)
theorem m_622 : (Cond.code yX8_eliminatedRow cX8_eliminatedRow 2 (some .int)) ∈ ALL := A_20_in _ (List.mem_of_getElem? (i := 22) rfl)
theorem m_623 : (Cond.code yX8_solved cX8_solved 3 (some .int)) ∈ ALL := A_20_in _ (List.mem_of_getElem? (i := 23) rfl)
theorem m_624 : (Cond.methodLink RX8 213 yX8_solved) ∈ ALL := A_20_in _ (List.mem_of_getElem? (i := 24) rfl)
theorem m_625 : (Cond.instanceMethod yX8_solved) ∈ ALL := A_20_in _ (List.mem_of_getElem? (i := 25) rfl)
theorem m_626 : (Cond.selects RX8 yX8_solved yX8_solved) ∈ ALL := A_20_in _ (List.mem_of_getElem? (i := 26) rfl)
theorem m_627 : (Cond.code yX8_solve cX8_solve 2 (some .int)) ∈ ALL := A_20_in _ (List.mem_of_getElem? (i := 27) rfl)
theorem m_628 : (Cond.code yX8_save cX8_save 3 (some .int)) ∈ ALL := A_20_in _ (List.mem_of_getElem? (i := 28) rfl)
theorem m_629 : (Cond.code yX8_restore cX8_restore 3 (some .int)) ∈ ALL := A_20_in _ (List.mem_of_getElem? (i := 29) rfl)
theorem m_630 : (Cond.code yJ9_max_7cf53 cJ9_max_7cf53 2 (some .int)) ∈ ALL := A_21_in _ (List.mem_of_getElem? (i := 0) rfl)
theorem m_631 : (Cond.code yJ9_min_7cf53 cJ9_min_7cf53 2 (some .int)) ∈ ALL := A_21_in _ (List.mem_of_getElem? (i := 1) rfl)
theorem m_632 : (Cond.codeWith yL_append cL_append 4 (some .int) [(0, 9, 12, 13), (0, 9, 15, 15)]) ∈ ALL := A_21_in _ (List.mem_of_getElem? (i := 2) rfl)
theorem m_633 : (Cond.classLink RL 13 "java/lang/IllegalArgumentException") ∈ ALL := A_21_in _ (List.mem_of_getElem? (i := 3) rfl)
theorem m_634 : (Cond.classLink RL 15 "java/lang/IllegalStateException") ∈ ALL := A_21_in _ (List.mem_of_getElem? (i := 4) rfl)
theorem m_635 : (Cond.methodLink RL 7 yX7_append) ∈ ALL := A_21_in _ (List.mem_of_getElem? (i := 5) rfl)
theorem m_636 : (Cond.instanceMethod yX7_append) ∈ ALL := A_21_in _ (List.mem_of_getElem? (i := 6) rfl)
theorem m_637 : (Cond.selects RX7 yX7_append yX7_append) ∈ ALL := A_21_in _ (List.mem_of_getElem? (i := 7) rfl)
theorem m_638 : (Cond.methodLink RL 17 yX7_load) ∈ ALL := A_21_in _ (List.mem_of_getElem? (i := 8) rfl)
theorem m_639 : (Cond.instanceMethod yX7_load) ∈ ALL := A_21_in _ (List.mem_of_getElem? (i := 9) rfl)
theorem m_640 : (Cond.selects RX7 yX7_load yX7_load) ∈ ALL := A_21_in _ (List.mem_of_getElem? (i := 10) rfl)
theorem m_641 : (Cond.codeWith yL_load cL_load 3 (some .int) [(0, 8, 11, 15)]) ∈ ALL := A_21_in _ (List.mem_of_getElem? (i := 11) rfl)
theorem m_642 : (Cond.classLink RL 25 "java/lang/IndexOutOfBoundsException") ∈ ALL := A_21_in _ (List.mem_of_getElem? (i := 12) rfl)
theorem m_643 : (Cond.methodLink RL 21 yX7_isParity) ∈ ALL := A_21_in _ (List.mem_of_getElem? (i := 13) rfl)
theorem m_644 : (Cond.instanceMethod yX7_isParity) ∈ ALL := A_21_in _ (List.mem_of_getElem? (i := 14) rfl)
theorem m_645 : (Cond.selects RX7 yX7_isParity yX7_isParity) ∈ ALL := A_21_in _ (List.mem_of_getElem? (i := 15) rfl)
theorem m_646 : (Cond.codeWith yL_isParity cL_isParity 4 (some .int) [(0, 16, 19, 25)]) ∈ ALL := A_21_in _ (List.mem_of_getElem? (i := 16) rfl)
theorem m_647 : (Cond.methodLink RL 27 yX7_variables) ∈ ALL := A_21_in _ (List.mem_of_getElem? (i := 17) rfl)
theorem m_648 : (Cond.instanceMethod yX7_variables) ∈ ALL := A_21_in _ (List.mem_of_getElem? (i := 18) rfl)
theorem m_649 : (Cond.selects RX7 yX7_variables yX7_variables) ∈ ALL := A_21_in _ (List.mem_of_getElem? (i := 19) rfl)
theorem m_650 : (Cond.codeWith yL_variables cL_variables 4 (some .int) [(0, 9, 12, 25)]) ∈ ALL := A_21_in _ (List.mem_of_getElem? (i := 20) rfl)
theorem m_651 : (Cond.methodLink RL 30 yX7_negated) ∈ ALL := A_21_in _ (List.mem_of_getElem? (i := 21) rfl)
theorem m_652 : (Cond.instanceMethod yX7_negated) ∈ ALL := A_21_in _ (List.mem_of_getElem? (i := 22) rfl)
theorem m_653 : (Cond.selects RX7 yX7_negated yX7_negated) ∈ ALL := A_21_in _ (List.mem_of_getElem? (i := 23) rfl)
theorem m_654 : (Cond.codeWith yL_negated cL_negated 4 (some .int) [(0, 9, 12, 25)]) ∈ ALL := A_21_in _ (List.mem_of_getElem? (i := 24) rfl)
theorem m_655 : (Cond.methodLink RL 33 yX7_addClause) ∈ ALL := A_21_in _ (List.mem_of_getElem? (i := 25) rfl)
theorem m_656 : (Cond.instanceMethod yX7_addClause) ∈ ALL := A_21_in _ (List.mem_of_getElem? (i := 26) rfl)
theorem m_657 : (Cond.selects RX7 yX7_addClause yX7_addClause) ∈ ALL := A_21_in _ (List.mem_of_getElem? (i := 27) rfl)
theorem m_658 : (Cond.codeWith yL_addClause cL_addClause 5 (some .int) [(0, 10, 13, 13), (0, 10, 17, 15)]) ∈ ALL := A_21_in _ (List.mem_of_getElem? (i := 28) rfl)
theorem m_659 : (Cond.methodLink RL 37 yX7_addParity) ∈ ALL := A_21_in _ (List.mem_of_getElem? (i := 29) rfl)
theorem m_660 : (Cond.instanceMethod yX7_addParity) ∈ ALL := A_22_in _ (List.mem_of_getElem? (i := 0) rfl)
theorem m_661 : (Cond.selects RX7 yX7_addParity yX7_addParity) ∈ ALL := A_22_in _ (List.mem_of_getElem? (i := 1) rfl)
theorem m_662 : (Cond.codeWith yL_addParity cL_addParity 5 (some .int) [(0, 10, 13, 13), (0, 10, 17, 15)]) ∈ ALL := A_22_in _ (List.mem_of_getElem? (i := 2) rfl)
theorem m_663 : (Cond.methodLink RL 40 yX7_removeConstraint) ∈ ALL := A_22_in _ (List.mem_of_getElem? (i := 3) rfl)
theorem m_664 : (Cond.instanceMethod yX7_removeConstraint) ∈ ALL := A_22_in _ (List.mem_of_getElem? (i := 4) rfl)
theorem m_665 : (Cond.selects RX7 yX7_removeConstraint yX7_removeConstraint) ∈ ALL := A_22_in _ (List.mem_of_getElem? (i := 5) rfl)
theorem m_666 : (Cond.codeWith yL_removeConstraint cL_removeConstraint 4 (some .int) [(0, 9, 12, 25)]) ∈ ALL := A_22_in _ (List.mem_of_getElem? (i := 6) rfl)
theorem m_667 : (Cond.methodLink RL 43 yX7_resolve) ∈ ALL := A_22_in _ (List.mem_of_getElem? (i := 7) rfl)
theorem m_668 : (Cond.instanceMethod yX7_resolve) ∈ ALL := A_22_in _ (List.mem_of_getElem? (i := 8) rfl)
theorem m_669 : (Cond.selects RX7 yX7_resolve yX7_resolve) ∈ ALL := A_22_in _ (List.mem_of_getElem? (i := 9) rfl)
theorem m_670 : (Cond.codeWith yL_resolve cL_resolve 6 (some .int) [(0, 12, 15, 25), (0, 12, 19, 15)]) ∈ ALL := A_22_in _ (List.mem_of_getElem? (i := 10) rfl)
theorem m_671 : (Cond.methodLink RL 47 yX7_sum) ∈ ALL := A_22_in _ (List.mem_of_getElem? (i := 11) rfl)
theorem m_672 : (Cond.instanceMethod yX7_sum) ∈ ALL := A_22_in _ (List.mem_of_getElem? (i := 12) rfl)
theorem m_673 : (Cond.selects RX7 yX7_sum yX7_sum) ∈ ALL := A_22_in _ (List.mem_of_getElem? (i := 13) rfl)
theorem m_674 : (Cond.codeWith yL_sum cL_sum 5 (some .int) [(0, 10, 13, 25), (0, 10, 17, 15)]) ∈ ALL := A_22_in _ (List.mem_of_getElem? (i := 14) rfl)
theorem m_675 : (Cond.methodLink RL 50 yX7_decide) ∈ ALL := A_22_in _ (List.mem_of_getElem? (i := 15) rfl)
theorem m_676 : (Cond.instanceMethod yX7_decide) ∈ ALL := A_22_in _ (List.mem_of_getElem? (i := 16) rfl)
theorem m_677 : (Cond.selects RX7 yX7_decide yX7_decide) ∈ ALL := A_22_in _ (List.mem_of_getElem? (i := 17) rfl)
theorem m_678 : (Cond.codeWith yL_decide cL_decide 4 (some .int) [(0, 9, 12, 25), (0, 9, 15, 15)]) ∈ ALL := A_22_in _ (List.mem_of_getElem? (i := 18) rfl)
theorem m_679 : (Cond.methodLink RL 53 yX7_backtrack) ∈ ALL := A_22_in _ (List.mem_of_getElem? (i := 19) rfl)
theorem m_680 : (Cond.instanceMethod yX7_backtrack) ∈ ALL := A_22_in _ (List.mem_of_getElem? (i := 20) rfl)
theorem m_681 : (Cond.selects RX7 yX7_backtrack yX7_backtrack) ∈ ALL := A_22_in _ (List.mem_of_getElem? (i := 21) rfl)
theorem m_682 : (Cond.codeWith yL_backtrack cL_backtrack 4 (some .int) [(0, 9, 12, 13)]) ∈ ALL := A_22_in _ (List.mem_of_getElem? (i := 22) rfl)
theorem m_683 : (Cond.methodLink RL 56 yX7_learn) ∈ ALL := A_22_in _ (List.mem_of_getElem? (i := 23) rfl)
theorem m_684 : (Cond.instanceMethod yX7_learn) ∈ ALL := A_22_in _ (List.mem_of_getElem? (i := 24) rfl)
theorem m_685 : (Cond.selects RX7 yX7_learn yX7_learn) ∈ ALL := A_22_in _ (List.mem_of_getElem? (i := 25) rfl)
theorem m_686 : (Cond.codeWith yL_learn cL_learn 3 (some .int) [(0, 8, 11, 15)]) ∈ ALL := A_22_in _ (List.mem_of_getElem? (i := 26) rfl)
theorem m_687 : (Cond.methodLink RL 59 yX7_undo) ∈ ALL := A_22_in _ (List.mem_of_getElem? (i := 27) rfl)
theorem m_688 : (Cond.instanceMethod yX7_undo) ∈ ALL := A_22_in _ (List.mem_of_getElem? (i := 28) rfl)
theorem m_689 : (Cond.selects RX7 yX7_undo yX7_undo) ∈ ALL := A_22_in _ (List.mem_of_getElem? (i := 29) rfl)
theorem m_690 : (Cond.codeWith yL_undo cL_undo 3 (some .int) [(0, 8, 11, 15)]) ∈ ALL := A_23_in _ (List.mem_of_getElem? (i := 0) rfl)
theorem m_691 : (Cond.methodLink RL 62 yX7_value) ∈ ALL := A_23_in _ (List.mem_of_getElem? (i := 1) rfl)
theorem m_692 : (Cond.instanceMethod yX7_value) ∈ ALL := A_23_in _ (List.mem_of_getElem? (i := 2) rfl)
theorem m_693 : (Cond.selects RX7 yX7_value yX7_value) ∈ ALL := A_23_in _ (List.mem_of_getElem? (i := 3) rfl)
theorem m_694 : (Cond.codeWith yL_value cL_value 4 (some .int) [(0, 9, 12, 25)]) ∈ ALL := A_23_in _ (List.mem_of_getElem? (i := 4) rfl)
theorem m_695 : (Cond.methodLink RL 65 yX7_trailLiteral) ∈ ALL := A_23_in _ (List.mem_of_getElem? (i := 5) rfl)
theorem m_696 : (Cond.instanceMethod yX7_trailLiteral) ∈ ALL := A_23_in _ (List.mem_of_getElem? (i := 6) rfl)
theorem m_697 : (Cond.selects RX7 yX7_trailLiteral yX7_trailLiteral) ∈ ALL := A_23_in _ (List.mem_of_getElem? (i := 7) rfl)
theorem m_698 : (Cond.codeWith yL_trailLiteral cL_trailLiteral 4 (some .int) [(0, 9, 12, 25)]) ∈ ALL := A_23_in _ (List.mem_of_getElem? (i := 8) rfl)
theorem m_699 : (Cond.methodLink RL 68 yX7_reason) ∈ ALL := A_23_in _ (List.mem_of_getElem? (i := 9) rfl)
theorem m_700 : (Cond.instanceMethod yX7_reason) ∈ ALL := A_23_in _ (List.mem_of_getElem? (i := 10) rfl)
theorem m_701 : (Cond.selects RX7 yX7_reason yX7_reason) ∈ ALL := A_23_in _ (List.mem_of_getElem? (i := 11) rfl)
theorem m_702 : (Cond.codeWith yL_reason cL_reason 4 (some .int) [(0, 9, 12, 25)]) ∈ ALL := A_23_in _ (List.mem_of_getElem? (i := 12) rfl)
theorem m_703 : (Cond.methodLink RL 71 yX7_learnedClause) ∈ ALL := A_23_in _ (List.mem_of_getElem? (i := 13) rfl)
theorem m_704 : (Cond.instanceMethod yX7_learnedClause) ∈ ALL := A_23_in _ (List.mem_of_getElem? (i := 14) rfl)
theorem m_705 : (Cond.selects RX7 yX7_learnedClause yX7_learnedClause) ∈ ALL := A_23_in _ (List.mem_of_getElem? (i := 15) rfl)
theorem m_706 : (Cond.codeWith yL_learnedClause cL_learnedClause 3 (some .int) [(0, 8, 11, 15)]) ∈ ALL := A_23_in _ (List.mem_of_getElem? (i := 16) rfl)
theorem m_707 : (Cond.methodLink RL 74 yX7_impliesClause) ∈ ALL := A_23_in _ (List.mem_of_getElem? (i := 17) rfl)
theorem m_708 : (Cond.instanceMethod yX7_impliesClause) ∈ ALL := A_23_in _ (List.mem_of_getElem? (i := 18) rfl)
theorem m_709 : (Cond.selects RX7 yX7_impliesClause yX7_impliesClause) ∈ ALL := A_23_in _ (List.mem_of_getElem? (i := 19) rfl)
theorem m_710 : (Cond.codeWith yL_impliesClause cL_impliesClause 5 (some .int) [(0, 17, 20, 13)]) ∈ ALL := A_23_in _ (List.mem_of_getElem? (i := 20) rfl)
theorem m_711 : (Cond.methodLink RL 78 yX7_impliesParity) ∈ ALL := A_23_in _ (List.mem_of_getElem? (i := 21) rfl)
theorem m_712 : (Cond.instanceMethod yX7_impliesParity) ∈ ALL := A_23_in _ (List.mem_of_getElem? (i := 22) rfl)
theorem m_713 : (Cond.selects RX7 yX7_impliesParity yX7_impliesParity) ∈ ALL := A_23_in _ (List.mem_of_getElem? (i := 23) rfl)
theorem m_714 : (Cond.codeWith yL_impliesParity cL_impliesParity 5 (some .int) [(0, 17, 20, 13)]) ∈ ALL := A_23_in _ (List.mem_of_getElem? (i := 24) rfl)
theorem m_715 : (Cond.methodLink RL 81 yX7_eliminatedRow) ∈ ALL := A_23_in _ (List.mem_of_getElem? (i := 25) rfl)
theorem m_716 : (Cond.instanceMethod yX7_eliminatedRow) ∈ ALL := A_23_in _ (List.mem_of_getElem? (i := 26) rfl)
theorem m_717 : (Cond.selects RX7 yX7_eliminatedRow yX7_eliminatedRow) ∈ ALL := A_23_in _ (List.mem_of_getElem? (i := 27) rfl)
theorem m_718 : (Cond.codeWith yL_eliminatedRow cL_eliminatedRow 4 (some .int) [(0, 9, 12, 15)]) ∈ ALL := A_23_in _ (List.mem_of_getElem? (i := 28) rfl)
theorem m_719 : (Cond.methodLink RL 84 yX7_save) ∈ ALL := A_23_in _ (List.mem_of_getElem? (i := 29) rfl)
theorem m_720 : (Cond.instanceMethod yX7_save) ∈ ALL := A_24_in _ (List.mem_of_getElem? (i := 0) rfl)
theorem m_721 : (Cond.selects RX7 yX7_save yX7_save) ∈ ALL := A_24_in _ (List.mem_of_getElem? (i := 1) rfl)
theorem m_722 : (Cond.codeWith yL_save cL_save 4 (some .int) [(0, 9, 12, 25)]) ∈ ALL := A_24_in _ (List.mem_of_getElem? (i := 2) rfl)
theorem m_723 : (Cond.methodLink RL 87 yX7_restore) ∈ ALL := A_24_in _ (List.mem_of_getElem? (i := 3) rfl)
theorem m_724 : (Cond.instanceMethod yX7_restore) ∈ ALL := A_24_in _ (List.mem_of_getElem? (i := 4) rfl)
theorem m_725 : (Cond.selects RX7 yX7_restore yX7_restore) ∈ ALL := A_24_in _ (List.mem_of_getElem? (i := 5) rfl)
theorem m_726 : (Cond.codeWith yL_restore cL_restore 4 (some .int) [(0, 9, 12, 25), (0, 9, 15, 15)]) ∈ ALL := A_24_in _ (List.mem_of_getElem? (i := 6) rfl)
theorem m_727 : (Cond.classLink RL 8 RX7) ∈ ALL := A_24_in _ (List.mem_of_getElem? (i := 7) rfl)
theorem m_728 : (Cond.instantiable RX7 8) ∈ ALL := A_24_in _ (List.mem_of_getElem? (i := 8) rfl)
theorem m_729 : (Cond.classLink RL 91 RX8) ∈ ALL := A_24_in _ (List.mem_of_getElem? (i := 9) rfl)
theorem m_730 : (Cond.instantiable RX8 26) ∈ ALL := A_24_in _ (List.mem_of_getElem? (i := 10) rfl)
theorem m_731 : (Cond.arrayClass .long) ∈ ALL := A_24_in _ (List.mem_of_getElem? (i := 11) rfl)
theorem m_732 : (Cond.methodLink RL 90 yX7_init) ∈ ALL := A_24_in _ (List.mem_of_getElem? (i := 12) rfl)
theorem m_733 : (Cond.instanceMethod yX7_init) ∈ ALL := A_24_in _ (List.mem_of_getElem? (i := 13) rfl)
theorem m_734 : (Cond.methodLink RL 93 yX8_init) ∈ ALL := A_24_in _ (List.mem_of_getElem? (i := 14) rfl)
theorem m_735 : (Cond.instanceMethod yX8_init) ∈ ALL := A_24_in _ (List.mem_of_getElem? (i := 15) rfl)
theorem m_736 : (Cond.methodLink RL 94 yL_append) ∈ ALL := A_24_in _ (List.mem_of_getElem? (i := 16) rfl)
theorem m_737 : (Cond.static yL_append) ∈ ALL := A_24_in _ (List.mem_of_getElem? (i := 17) rfl)
theorem m_738 : (Cond.initialized RL) ∈ ALL := A_24_in _ (List.mem_of_getElem? (i := 18) rfl)
theorem m_739 : (Cond.methodLink RL 99 yX8_append) ∈ ALL := A_24_in _ (List.mem_of_getElem? (i := 19) rfl)
theorem m_740 : (Cond.instanceMethod yX8_append) ∈ ALL := A_24_in _ (List.mem_of_getElem? (i := 20) rfl)
theorem m_741 : (Cond.selects RX8 yX8_append yX8_append) ∈ ALL := A_24_in _ (List.mem_of_getElem? (i := 21) rfl)
theorem m_742 : (Cond.methodLink RL 100 yX8_thrown) ∈ ALL := A_24_in _ (List.mem_of_getElem? (i := 22) rfl)
theorem m_743 : (Cond.instanceMethod yX8_thrown) ∈ ALL := A_24_in _ (List.mem_of_getElem? (i := 23) rfl)
theorem m_744 : (Cond.selects RX8 yX8_thrown yX8_thrown) ∈ ALL := A_24_in _ (List.mem_of_getElem? (i := 24) rfl)
theorem m_745 : (Cond.methodLink RL 103 yX7_clearText) ∈ ALL := A_24_in _ (List.mem_of_getElem? (i := 25) rfl)
theorem m_746 : (Cond.instanceMethod yX7_clearText) ∈ ALL := A_24_in _ (List.mem_of_getElem? (i := 26) rfl)
theorem m_747 : (Cond.selects RX7 yX7_clearText yX7_clearText) ∈ ALL := A_24_in _ (List.mem_of_getElem? (i := 27) rfl)
theorem m_748 : (Cond.methodLink RL 106 yX8_clearText) ∈ ALL := A_24_in _ (List.mem_of_getElem? (i := 28) rfl)
theorem m_749 : (Cond.instanceMethod yX8_clearText) ∈ ALL := A_24_in _ (List.mem_of_getElem? (i := 29) rfl)
theorem m_750 : (Cond.selects RX8 yX8_clearText yX8_clearText) ∈ ALL := A_25_in _ (List.mem_of_getElem? (i := 0) rfl)
theorem m_751 : (Cond.methodLink RL 107 yX7_errorPosition) ∈ ALL := A_25_in _ (List.mem_of_getElem? (i := 1) rfl)
theorem m_752 : (Cond.instanceMethod yX7_errorPosition) ∈ ALL := A_25_in _ (List.mem_of_getElem? (i := 2) rfl)
theorem m_753 : (Cond.selects RX7 yX7_errorPosition yX7_errorPosition) ∈ ALL := A_25_in _ (List.mem_of_getElem? (i := 3) rfl)
theorem m_754 : (Cond.methodLink RL 110 yX8_errorPosition) ∈ ALL := A_25_in _ (List.mem_of_getElem? (i := 4) rfl)
theorem m_755 : (Cond.instanceMethod yX8_errorPosition) ∈ ALL := A_25_in _ (List.mem_of_getElem? (i := 5) rfl)
theorem m_756 : (Cond.selects RX8 yX8_errorPosition yX8_errorPosition) ∈ ALL := A_25_in _ (List.mem_of_getElem? (i := 6) rfl)
theorem m_757 : (Cond.methodLink RL 111 yL_load) ∈ ALL := A_25_in _ (List.mem_of_getElem? (i := 7) rfl)
theorem m_758 : (Cond.static yL_load) ∈ ALL := A_25_in _ (List.mem_of_getElem? (i := 8) rfl)
theorem m_759 : (Cond.methodLink RL 114 yX8_load) ∈ ALL := A_25_in _ (List.mem_of_getElem? (i := 9) rfl)
theorem m_760 : (Cond.instanceMethod yX8_load) ∈ ALL := A_25_in _ (List.mem_of_getElem? (i := 10) rfl)
theorem m_761 : (Cond.selects RX8 yX8_load yX8_load) ∈ ALL := A_25_in _ (List.mem_of_getElem? (i := 11) rfl)
theorem m_762 : (Cond.methodLink RL 115 yX7_constraintCount) ∈ ALL := A_25_in _ (List.mem_of_getElem? (i := 12) rfl)
theorem m_763 : (Cond.instanceMethod yX7_constraintCount) ∈ ALL := A_25_in _ (List.mem_of_getElem? (i := 13) rfl)
theorem m_764 : (Cond.selects RX7 yX7_constraintCount yX7_constraintCount) ∈ ALL := A_25_in _ (List.mem_of_getElem? (i := 14) rfl)
theorem m_765 : (Cond.methodLink RL 118 yX8_constraintCount) ∈ ALL := A_25_in _ (List.mem_of_getElem? (i := 15) rfl)
theorem m_766 : (Cond.instanceMethod yX8_constraintCount) ∈ ALL := A_25_in _ (List.mem_of_getElem? (i := 16) rfl)
theorem m_767 : (Cond.selects RX8 yX8_constraintCount yX8_constraintCount) ∈ ALL := A_25_in _ (List.mem_of_getElem? (i := 17) rfl)
theorem m_768 : (Cond.methodLink RL 119 yL_isParity) ∈ ALL := A_25_in _ (List.mem_of_getElem? (i := 18) rfl)
theorem m_769 : (Cond.static yL_isParity) ∈ ALL := A_25_in _ (List.mem_of_getElem? (i := 19) rfl)
theorem m_770 : (Cond.methodLink RL 121 yX8_isParity) ∈ ALL := A_25_in _ (List.mem_of_getElem? (i := 20) rfl)
theorem m_771 : (Cond.instanceMethod yX8_isParity) ∈ ALL := A_25_in _ (List.mem_of_getElem? (i := 21) rfl)
theorem m_772 : (Cond.selects RX8 yX8_isParity yX8_isParity) ∈ ALL := A_25_in _ (List.mem_of_getElem? (i := 22) rfl)
theorem m_773 : (Cond.methodLink RL 122 yL_variables) ∈ ALL := A_25_in _ (List.mem_of_getElem? (i := 23) rfl)
theorem m_774 : (Cond.static yL_variables) ∈ ALL := A_25_in _ (List.mem_of_getElem? (i := 24) rfl)
theorem m_775 : (Cond.methodLink RL 124 yX8_variables) ∈ ALL := A_25_in _ (List.mem_of_getElem? (i := 25) rfl)
theorem m_776 : (Cond.instanceMethod yX8_variables) ∈ ALL := A_25_in _ (List.mem_of_getElem? (i := 26) rfl)
theorem m_777 : (Cond.selects RX8 yX8_variables yX8_variables) ∈ ALL := A_25_in _ (List.mem_of_getElem? (i := 27) rfl)
theorem m_778 : (Cond.methodLink RL 125 yL_negated) ∈ ALL := A_25_in _ (List.mem_of_getElem? (i := 28) rfl)
theorem m_779 : (Cond.static yL_negated) ∈ ALL := A_25_in _ (List.mem_of_getElem? (i := 29) rfl)
theorem m_780 : (Cond.methodLink RL 127 yX8_negated) ∈ ALL := A_26_in _ (List.mem_of_getElem? (i := 0) rfl)
theorem m_781 : (Cond.instanceMethod yX8_negated) ∈ ALL := A_26_in _ (List.mem_of_getElem? (i := 1) rfl)
theorem m_782 : (Cond.selects RX8 yX8_negated yX8_negated) ∈ ALL := A_26_in _ (List.mem_of_getElem? (i := 2) rfl)
theorem m_783 : (Cond.methodLink RL 128 yL_addClause) ∈ ALL := A_26_in _ (List.mem_of_getElem? (i := 3) rfl)
theorem m_784 : (Cond.static yL_addClause) ∈ ALL := A_26_in _ (List.mem_of_getElem? (i := 4) rfl)
theorem m_785 : (Cond.methodLink RL 131 yX8_addClause) ∈ ALL := A_26_in _ (List.mem_of_getElem? (i := 5) rfl)
theorem m_786 : (Cond.instanceMethod yX8_addClause) ∈ ALL := A_26_in _ (List.mem_of_getElem? (i := 6) rfl)
theorem m_787 : (Cond.selects RX8 yX8_addClause yX8_addClause) ∈ ALL := A_26_in _ (List.mem_of_getElem? (i := 7) rfl)
theorem m_788 : (Cond.methodLink RL 132 yL_addParity) ∈ ALL := A_26_in _ (List.mem_of_getElem? (i := 8) rfl)
theorem m_789 : (Cond.static yL_addParity) ∈ ALL := A_26_in _ (List.mem_of_getElem? (i := 9) rfl)
theorem m_790 : (Cond.methodLink RL 134 yX8_addParity) ∈ ALL := A_26_in _ (List.mem_of_getElem? (i := 10) rfl)
theorem m_791 : (Cond.instanceMethod yX8_addParity) ∈ ALL := A_26_in _ (List.mem_of_getElem? (i := 11) rfl)
theorem m_792 : (Cond.selects RX8 yX8_addParity yX8_addParity) ∈ ALL := A_26_in _ (List.mem_of_getElem? (i := 12) rfl)
theorem m_793 : (Cond.methodLink RL 135 yL_removeConstraint) ∈ ALL := A_26_in _ (List.mem_of_getElem? (i := 13) rfl)
theorem m_794 : (Cond.static yL_removeConstraint) ∈ ALL := A_26_in _ (List.mem_of_getElem? (i := 14) rfl)
theorem m_795 : (Cond.methodLink RL 137 yX8_removeConstraint) ∈ ALL := A_26_in _ (List.mem_of_getElem? (i := 15) rfl)
theorem m_796 : (Cond.instanceMethod yX8_removeConstraint) ∈ ALL := A_26_in _ (List.mem_of_getElem? (i := 16) rfl)
theorem m_797 : (Cond.selects RX8 yX8_removeConstraint yX8_removeConstraint) ∈ ALL := A_26_in _ (List.mem_of_getElem? (i := 17) rfl)
theorem m_798 : (Cond.methodLink RL 138 yL_resolve) ∈ ALL := A_26_in _ (List.mem_of_getElem? (i := 18) rfl)
theorem m_799 : (Cond.static yL_resolve) ∈ ALL := A_26_in _ (List.mem_of_getElem? (i := 19) rfl)
theorem m_800 : (Cond.methodLink RL 141 yX8_resolve) ∈ ALL := A_26_in _ (List.mem_of_getElem? (i := 20) rfl)
theorem m_801 : (Cond.instanceMethod yX8_resolve) ∈ ALL := A_26_in _ (List.mem_of_getElem? (i := 21) rfl)
theorem m_802 : (Cond.selects RX8 yX8_resolve yX8_resolve) ∈ ALL := A_26_in _ (List.mem_of_getElem? (i := 22) rfl)
theorem m_803 : (Cond.methodLink RL 142 yL_sum) ∈ ALL := A_26_in _ (List.mem_of_getElem? (i := 23) rfl)
theorem m_804 : (Cond.static yL_sum) ∈ ALL := A_26_in _ (List.mem_of_getElem? (i := 24) rfl)
theorem m_805 : (Cond.methodLink RL 144 yX8_sum) ∈ ALL := A_26_in _ (List.mem_of_getElem? (i := 25) rfl)
theorem m_806 : (Cond.instanceMethod yX8_sum) ∈ ALL := A_26_in _ (List.mem_of_getElem? (i := 26) rfl)
theorem m_807 : (Cond.selects RX8 yX8_sum yX8_sum) ∈ ALL := A_26_in _ (List.mem_of_getElem? (i := 27) rfl)
theorem m_808 : (Cond.methodLink RL 145 yL_decide) ∈ ALL := A_26_in _ (List.mem_of_getElem? (i := 28) rfl)
theorem m_809 : (Cond.static yL_decide) ∈ ALL := A_26_in _ (List.mem_of_getElem? (i := 29) rfl)
theorem m_810 : (Cond.methodLink RL 147 yX8_decide) ∈ ALL := A_27_in _ (List.mem_of_getElem? (i := 0) rfl)
theorem m_811 : (Cond.instanceMethod yX8_decide) ∈ ALL := A_27_in _ (List.mem_of_getElem? (i := 1) rfl)
theorem m_812 : (Cond.selects RX8 yX8_decide yX8_decide) ∈ ALL := A_27_in _ (List.mem_of_getElem? (i := 2) rfl)
theorem m_813 : (Cond.methodLink RL 148 yL_backtrack) ∈ ALL := A_27_in _ (List.mem_of_getElem? (i := 3) rfl)
theorem m_814 : (Cond.static yL_backtrack) ∈ ALL := A_27_in _ (List.mem_of_getElem? (i := 4) rfl)
theorem m_815 : (Cond.methodLink RL 150 yX8_backtrack) ∈ ALL := A_27_in _ (List.mem_of_getElem? (i := 5) rfl)
theorem m_816 : (Cond.instanceMethod yX8_backtrack) ∈ ALL := A_27_in _ (List.mem_of_getElem? (i := 6) rfl)
theorem m_817 : (Cond.selects RX8 yX8_backtrack yX8_backtrack) ∈ ALL := A_27_in _ (List.mem_of_getElem? (i := 7) rfl)
theorem m_818 : (Cond.methodLink RL 151 yL_learn) ∈ ALL := A_27_in _ (List.mem_of_getElem? (i := 8) rfl)
theorem m_819 : (Cond.static yL_learn) ∈ ALL := A_27_in _ (List.mem_of_getElem? (i := 9) rfl)
theorem m_820 : (Cond.methodLink RL 153 yX8_learn) ∈ ALL := A_27_in _ (List.mem_of_getElem? (i := 10) rfl)
theorem m_821 : (Cond.instanceMethod yX8_learn) ∈ ALL := A_27_in _ (List.mem_of_getElem? (i := 11) rfl)
theorem m_822 : (Cond.selects RX8 yX8_learn yX8_learn) ∈ ALL := A_27_in _ (List.mem_of_getElem? (i := 12) rfl)
theorem m_823 : (Cond.methodLink RL 154 yL_undo) ∈ ALL := A_27_in _ (List.mem_of_getElem? (i := 13) rfl)
theorem m_824 : (Cond.static yL_undo) ∈ ALL := A_27_in _ (List.mem_of_getElem? (i := 14) rfl)
theorem m_825 : (Cond.methodLink RL 156 yX8_undo) ∈ ALL := A_27_in _ (List.mem_of_getElem? (i := 15) rfl)
theorem m_826 : (Cond.instanceMethod yX8_undo) ∈ ALL := A_27_in _ (List.mem_of_getElem? (i := 16) rfl)
theorem m_827 : (Cond.selects RX8 yX8_undo yX8_undo) ∈ ALL := A_27_in _ (List.mem_of_getElem? (i := 17) rfl)
theorem m_828 : (Cond.methodLink RL 157 yX7_level) ∈ ALL := A_27_in _ (List.mem_of_getElem? (i := 18) rfl)
theorem m_829 : (Cond.instanceMethod yX7_level) ∈ ALL := A_27_in _ (List.mem_of_getElem? (i := 19) rfl)
theorem m_830 : (Cond.selects RX7 yX7_level yX7_level) ∈ ALL := A_27_in _ (List.mem_of_getElem? (i := 20) rfl)
theorem m_831 : (Cond.methodLink RL 160 yX8_level) ∈ ALL := A_27_in _ (List.mem_of_getElem? (i := 21) rfl)
theorem m_832 : (Cond.instanceMethod yX8_level) ∈ ALL := A_27_in _ (List.mem_of_getElem? (i := 22) rfl)
theorem m_833 : (Cond.selects RX8 yX8_level yX8_level) ∈ ALL := A_27_in _ (List.mem_of_getElem? (i := 23) rfl)
theorem m_834 : (Cond.methodLink RL 161 yL_value) ∈ ALL := A_27_in _ (List.mem_of_getElem? (i := 24) rfl)
theorem m_835 : (Cond.static yL_value) ∈ ALL := A_27_in _ (List.mem_of_getElem? (i := 25) rfl)
theorem m_836 : (Cond.methodLink RL 163 yX8_value) ∈ ALL := A_27_in _ (List.mem_of_getElem? (i := 26) rfl)
theorem m_837 : (Cond.instanceMethod yX8_value) ∈ ALL := A_27_in _ (List.mem_of_getElem? (i := 27) rfl)
theorem m_838 : (Cond.selects RX8 yX8_value yX8_value) ∈ ALL := A_27_in _ (List.mem_of_getElem? (i := 28) rfl)
theorem m_839 : (Cond.methodLink RL 164 yL_trailLiteral) ∈ ALL := A_27_in _ (List.mem_of_getElem? (i := 29) rfl)
theorem m_840 : (Cond.static yL_trailLiteral) ∈ ALL := A_28_in _ (List.mem_of_getElem? (i := 0) rfl)
theorem m_841 : (Cond.methodLink RL 166 yX8_trailLiteral) ∈ ALL := A_28_in _ (List.mem_of_getElem? (i := 1) rfl)
theorem m_842 : (Cond.instanceMethod yX8_trailLiteral) ∈ ALL := A_28_in _ (List.mem_of_getElem? (i := 2) rfl)
theorem m_843 : (Cond.selects RX8 yX8_trailLiteral yX8_trailLiteral) ∈ ALL := A_28_in _ (List.mem_of_getElem? (i := 3) rfl)
theorem m_844 : (Cond.methodLink RL 167 yL_reason) ∈ ALL := A_28_in _ (List.mem_of_getElem? (i := 4) rfl)
theorem m_845 : (Cond.static yL_reason) ∈ ALL := A_28_in _ (List.mem_of_getElem? (i := 5) rfl)
theorem m_846 : (Cond.methodLink RL 169 yX8_reason) ∈ ALL := A_28_in _ (List.mem_of_getElem? (i := 6) rfl)
theorem m_847 : (Cond.instanceMethod yX8_reason) ∈ ALL := A_28_in _ (List.mem_of_getElem? (i := 7) rfl)
theorem m_848 : (Cond.selects RX8 yX8_reason yX8_reason) ∈ ALL := A_28_in _ (List.mem_of_getElem? (i := 8) rfl)
theorem m_849 : (Cond.methodLink RL 170 yX7_conflict) ∈ ALL := A_28_in _ (List.mem_of_getElem? (i := 9) rfl)
theorem m_850 : (Cond.instanceMethod yX7_conflict) ∈ ALL := A_28_in _ (List.mem_of_getElem? (i := 10) rfl)
theorem m_851 : (Cond.selects RX7 yX7_conflict yX7_conflict) ∈ ALL := A_28_in _ (List.mem_of_getElem? (i := 11) rfl)
theorem m_852 : (Cond.methodLink RL 173 yX8_conflict) ∈ ALL := A_28_in _ (List.mem_of_getElem? (i := 12) rfl)
theorem m_853 : (Cond.instanceMethod yX8_conflict) ∈ ALL := A_28_in _ (List.mem_of_getElem? (i := 13) rfl)
theorem m_854 : (Cond.selects RX8 yX8_conflict yX8_conflict) ∈ ALL := A_28_in _ (List.mem_of_getElem? (i := 14) rfl)
theorem m_855 : (Cond.methodLink RL 174 yL_learnedClause) ∈ ALL := A_28_in _ (List.mem_of_getElem? (i := 15) rfl)
theorem m_856 : (Cond.static yL_learnedClause) ∈ ALL := A_28_in _ (List.mem_of_getElem? (i := 16) rfl)
theorem m_857 : (Cond.methodLink RL 176 yX8_learnedClause) ∈ ALL := A_28_in _ (List.mem_of_getElem? (i := 17) rfl)
theorem m_858 : (Cond.instanceMethod yX8_learnedClause) ∈ ALL := A_28_in _ (List.mem_of_getElem? (i := 18) rfl)
theorem m_859 : (Cond.selects RX8 yX8_learnedClause yX8_learnedClause) ∈ ALL := A_28_in _ (List.mem_of_getElem? (i := 19) rfl)
theorem m_860 : (Cond.methodLink RL 177 yX7_modelCount) ∈ ALL := A_28_in _ (List.mem_of_getElem? (i := 20) rfl)
theorem m_861 : (Cond.instanceMethod yX7_modelCount) ∈ ALL := A_28_in _ (List.mem_of_getElem? (i := 21) rfl)
theorem m_862 : (Cond.selects RX7 yX7_modelCount yX7_modelCount) ∈ ALL := A_28_in _ (List.mem_of_getElem? (i := 22) rfl)
theorem m_863 : (Cond.methodLink RL 180 yX8_modelCount) ∈ ALL := A_28_in _ (List.mem_of_getElem? (i := 23) rfl)
theorem m_864 : (Cond.instanceMethod yX8_modelCount) ∈ ALL := A_28_in _ (List.mem_of_getElem? (i := 24) rfl)
theorem m_865 : (Cond.selects RX8 yX8_modelCount yX8_modelCount) ∈ ALL := A_28_in _ (List.mem_of_getElem? (i := 25) rfl)
theorem m_866 : (Cond.methodLink RL 181 yX7_model) ∈ ALL := A_28_in _ (List.mem_of_getElem? (i := 26) rfl)
theorem m_867 : (Cond.instanceMethod yX7_model) ∈ ALL := A_28_in _ (List.mem_of_getElem? (i := 27) rfl)
theorem m_868 : (Cond.selects RX7 yX7_model yX7_model) ∈ ALL := A_28_in _ (List.mem_of_getElem? (i := 28) rfl)
theorem m_869 : (Cond.methodLink RL 184 yX8_model) ∈ ALL := A_28_in _ (List.mem_of_getElem? (i := 29) rfl)
theorem m_870 : (Cond.instanceMethod yX8_model) ∈ ALL := A_29_in _ (List.mem_of_getElem? (i := 0) rfl)
theorem m_871 : (Cond.selects RX8 yX8_model yX8_model) ∈ ALL := A_29_in _ (List.mem_of_getElem? (i := 1) rfl)
theorem m_872 : (Cond.methodLink RL 185 yL_impliesClause) ∈ ALL := A_29_in _ (List.mem_of_getElem? (i := 2) rfl)
theorem m_873 : (Cond.static yL_impliesClause) ∈ ALL := A_29_in _ (List.mem_of_getElem? (i := 3) rfl)
theorem m_874 : (Cond.methodLink RL 187 yX8_impliesClause) ∈ ALL := A_29_in _ (List.mem_of_getElem? (i := 4) rfl)
theorem m_875 : (Cond.instanceMethod yX8_impliesClause) ∈ ALL := A_29_in _ (List.mem_of_getElem? (i := 5) rfl)
theorem m_876 : (Cond.selects RX8 yX8_impliesClause yX8_impliesClause) ∈ ALL := A_29_in _ (List.mem_of_getElem? (i := 6) rfl)
theorem m_877 : (Cond.methodLink RL 188 yL_impliesParity) ∈ ALL := A_29_in _ (List.mem_of_getElem? (i := 7) rfl)
theorem m_878 : (Cond.static yL_impliesParity) ∈ ALL := A_29_in _ (List.mem_of_getElem? (i := 8) rfl)
theorem m_879 : (Cond.methodLink RL 190 yX8_impliesParity) ∈ ALL := A_29_in _ (List.mem_of_getElem? (i := 9) rfl)
theorem m_880 : (Cond.instanceMethod yX8_impliesParity) ∈ ALL := A_29_in _ (List.mem_of_getElem? (i := 10) rfl)
theorem m_881 : (Cond.selects RX8 yX8_impliesParity yX8_impliesParity) ∈ ALL := A_29_in _ (List.mem_of_getElem? (i := 11) rfl)
theorem m_882 : (Cond.methodLink RL 191 yX7_core) ∈ ALL := A_29_in _ (List.mem_of_getElem? (i := 12) rfl)
theorem m_883 : (Cond.instanceMethod yX7_core) ∈ ALL := A_29_in _ (List.mem_of_getElem? (i := 13) rfl)
theorem m_884 : (Cond.selects RX7 yX7_core yX7_core) ∈ ALL := A_29_in _ (List.mem_of_getElem? (i := 14) rfl)
theorem m_885 : (Cond.methodLink RL 194 yX8_core) ∈ ALL := A_29_in _ (List.mem_of_getElem? (i := 15) rfl)
theorem m_886 : (Cond.instanceMethod yX8_core) ∈ ALL := A_29_in _ (List.mem_of_getElem? (i := 16) rfl)
theorem m_887 : (Cond.selects RX8 yX8_core yX8_core) ∈ ALL := A_29_in _ (List.mem_of_getElem? (i := 17) rfl)
theorem m_888 : (Cond.methodLink RL 195 yX7_rank) ∈ ALL := A_29_in _ (List.mem_of_getElem? (i := 18) rfl)
theorem m_889 : (Cond.instanceMethod yX7_rank) ∈ ALL := A_29_in _ (List.mem_of_getElem? (i := 19) rfl)
theorem m_890 : (Cond.selects RX7 yX7_rank yX7_rank) ∈ ALL := A_29_in _ (List.mem_of_getElem? (i := 20) rfl)
theorem m_891 : (Cond.methodLink RL 198 yX8_rank) ∈ ALL := A_29_in _ (List.mem_of_getElem? (i := 21) rfl)
theorem m_892 : (Cond.instanceMethod yX8_rank) ∈ ALL := A_29_in _ (List.mem_of_getElem? (i := 22) rfl)
theorem m_893 : (Cond.selects RX8 yX8_rank yX8_rank) ∈ ALL := A_29_in _ (List.mem_of_getElem? (i := 23) rfl)
theorem m_894 : (Cond.methodLink RL 199 yX7_isConsistent) ∈ ALL := A_29_in _ (List.mem_of_getElem? (i := 24) rfl)
theorem m_895 : (Cond.instanceMethod yX7_isConsistent) ∈ ALL := A_29_in _ (List.mem_of_getElem? (i := 25) rfl)
theorem m_896 : (Cond.selects RX7 yX7_isConsistent yX7_isConsistent) ∈ ALL := A_29_in _ (List.mem_of_getElem? (i := 26) rfl)
theorem m_897 : (Cond.methodLink RL 203 yX8_isConsistent) ∈ ALL := A_29_in _ (List.mem_of_getElem? (i := 27) rfl)
theorem m_898 : (Cond.instanceMethod yX8_isConsistent) ∈ ALL := A_29_in _ (List.mem_of_getElem? (i := 28) rfl)
theorem m_899 : (Cond.selects RX8 yX8_isConsistent yX8_isConsistent) ∈ ALL := A_29_in _ (List.mem_of_getElem? (i := 29) rfl)
theorem m_900 : (Cond.methodLink RL 204 yL_eliminatedRow) ∈ ALL := A_30_in _ (List.mem_of_getElem? (i := 0) rfl)
theorem m_901 : (Cond.static yL_eliminatedRow) ∈ ALL := A_30_in _ (List.mem_of_getElem? (i := 1) rfl)
theorem m_902 : (Cond.methodLink RL 206 yX8_eliminatedRow) ∈ ALL := A_30_in _ (List.mem_of_getElem? (i := 2) rfl)
theorem m_903 : (Cond.instanceMethod yX8_eliminatedRow) ∈ ALL := A_30_in _ (List.mem_of_getElem? (i := 3) rfl)
theorem m_904 : (Cond.selects RX8 yX8_eliminatedRow yX8_eliminatedRow) ∈ ALL := A_30_in _ (List.mem_of_getElem? (i := 4) rfl)
theorem m_905 : (Cond.methodLink RL 207 yX7_solve) ∈ ALL := A_30_in _ (List.mem_of_getElem? (i := 5) rfl)
theorem m_906 : (Cond.instanceMethod yX7_solve) ∈ ALL := A_30_in _ (List.mem_of_getElem? (i := 6) rfl)
theorem m_907 : (Cond.selects RX7 yX7_solve yX7_solve) ∈ ALL := A_30_in _ (List.mem_of_getElem? (i := 7) rfl)
theorem m_908 : (Cond.methodLink RL 210 yX8_solve) ∈ ALL := A_30_in _ (List.mem_of_getElem? (i := 8) rfl)
theorem m_909 : (Cond.instanceMethod yX8_solve) ∈ ALL := A_30_in _ (List.mem_of_getElem? (i := 9) rfl)
theorem m_910 : (Cond.selects RX8 yX8_solve yX8_solve) ∈ ALL := A_30_in _ (List.mem_of_getElem? (i := 10) rfl)
theorem m_911 : (Cond.methodLink RL 211 yL_save) ∈ ALL := A_30_in _ (List.mem_of_getElem? (i := 11) rfl)
theorem m_912 : (Cond.static yL_save) ∈ ALL := A_30_in _ (List.mem_of_getElem? (i := 12) rfl)
theorem m_913 : (Cond.methodLink RL 213 yX8_save) ∈ ALL := A_30_in _ (List.mem_of_getElem? (i := 13) rfl)
theorem m_914 : (Cond.instanceMethod yX8_save) ∈ ALL := A_30_in _ (List.mem_of_getElem? (i := 14) rfl)
theorem m_915 : (Cond.selects RX8 yX8_save yX8_save) ∈ ALL := A_30_in _ (List.mem_of_getElem? (i := 15) rfl)
theorem m_916 : (Cond.methodLink RL 214 yL_restore) ∈ ALL := A_30_in _ (List.mem_of_getElem? (i := 16) rfl)
theorem m_917 : (Cond.static yL_restore) ∈ ALL := A_30_in _ (List.mem_of_getElem? (i := 17) rfl)
theorem m_918 : (Cond.methodLink RL 216 yX8_restore) ∈ ALL := A_30_in _ (List.mem_of_getElem? (i := 18) rfl)
theorem m_919 : (Cond.instanceMethod yX8_restore) ∈ ALL := A_30_in _ (List.mem_of_getElem? (i := 19) rfl)
theorem m_920 : (Cond.selects RX8 yX8_restore yX8_restore) ∈ ALL := A_30_in _ (List.mem_of_getElem? (i := 20) rfl)
theorem inA0 : ∀ w ∈ u_ws RX0 TX0 3, w ∈ ALL := A_31_in
theorem inA1 : ∀ w ∈ u_ws RX1 TX1 2, w ∈ ALL := A_32_in
theorem inA2 : ∀ w ∈ u_ws RX2 TX2 6, w ∈ ALL := A_33_in
theorem inA3 : ∀ w ∈ u_ws RX3 TX3 4, w ∈ ALL := A_34_in
theorem inA4 : ∀ w ∈ u_ws RX4 TX4 2, w ∈ ALL := A_35_in
theorem inA5 : ∀ w ∈ u_ws RX5 TX5 3, w ∈ ALL := A_36_in
theorem inA6 : ∀ w ∈ u_ws RX6 TX6 9, w ∈ ALL := A_37_in
theorem inA7 : ∀ w ∈ u_ws RX7 TX7 8, w ∈ ALL := A_38_in
theorem inA8 : ∀ w ∈ u_ws RX8 TX8 26, w ∈ ALL := A_39_in
theorem inE0 : ∀ w ∈ (vx_atS RX7 61 "java/lang/IllegalArgumentException" ["java/lang/RuntimeException", "java/lang/Exception"]).filter goodWord, w ∈ ALL := A_40_in
theorem inE1 : ∀ w ∈ (vx_atS RX7 72 "java/lang/IllegalStateException" ["java/lang/RuntimeException", "java/lang/Exception"]).filter goodWord, w ∈ ALL := A_41_in
theorem inE2 : ∀ w ∈ (vx_atS RX7 168 "java/lang/IndexOutOfBoundsException" ["java/lang/RuntimeException", "java/lang/Exception"]).filter goodWord, w ∈ ALL := A_42_in
end
section
theorem zz_last : True := trivial
end
