abbrev cX1_judge : ByteArray := prog_3_method_9_code
def yX1_judge : MethodName := ⟨RX1, "judge", "(LChainwork$State;LChainwork$Chain;I)V"⟩
theorem dX1_judge_0 : decode cX1_judge 0 = .ok (.aload_n 0, 1) := by decide +kernel
theorem dX1_judge_1 : decode cX1_judge 1 = .ok (.iconst (-1), 1) := by decide +kernel
theorem dX1_judge_2 : decode cX1_judge 2 = .ok (.putfield 47, 3) := by decide +kernel
theorem dX1_judge_5 : decode cX1_judge 5 = .ok (.aload_n 0, 1) := by decide +kernel
theorem dX1_judge_6 : decode cX1_judge 6 = .ok (.iconst 0, 1) := by decide +kernel
theorem dX1_judge_7 : decode cX1_judge 7 = .ok (.putfield 53, 3) := by decide +kernel
theorem dX1_judge_10 : decode cX1_judge 10 = .ok (.iconst 0, 1) := by decide +kernel
theorem dX1_judge_11 : decode cX1_judge 11 = .ok (.istore 4, 2) := by decide +kernel
theorem dX1_judge_13 : decode cX1_judge 13 = .ok (.iconst 0, 1) := by decide +kernel
theorem dX1_judge_14 : decode cX1_judge 14 = .ok (.istore 5, 2) := by decide +kernel
theorem dX1_judge_16 : decode cX1_judge 16 = .ok (.iconst 1, 1) := by decide +kernel
theorem dX1_judge_17 : decode cX1_judge 17 = .ok (.istore 6, 2) := by decide +kernel
theorem dX1_judge_19 : decode cX1_judge 19 = .ok (.iload 6, 2) := by decide +kernel
theorem dX1_judge_21 : decode cX1_judge 21 = .ok (.aload_n 2, 1) := by decide +kernel
theorem zw_447 : Cond.fieldLink RX1 158 RX0 "count" "I" ∈ zT := zT_of 61 (by decide +kernel) (by decide +kernel)
theorem dX1_judge_22 : decode cX1_judge 22 = .ok (.getfield 158, 3) := by decide +kernel
theorem dX1_judge_25 : decode cX1_judge 25 = .ok (.if_icmp .ge 131, 3) := by decide +kernel
theorem dX1_judge_156 : decode cX1_judge 156 = .ok (.aload_n 2, 1) := by decide +kernel
theorem dX1_judge_157 : decode cX1_judge 157 = .ok (.getfield 158, 3) := by decide +kernel
theorem dX1_judge_160 : decode cX1_judge 160 = .ok (.ifCond .eq 21, 3) := by decide +kernel
theorem dX1_judge_181 : decode cX1_judge 181 = .ok (.aload_n 0, 1) := by decide +kernel
theorem dX1_judge_182 : decode cX1_judge 182 = .ok (.iconst (-1), 1) := by decide +kernel
theorem dX1_judge_183 : decode cX1_judge 183 = .ok (.putfield 50, 3) := by decide +kernel
theorem dX1_judge_186 : decode cX1_judge 186 = .ok (.goto 26, 3) := by decide +kernel
theorem dX1_judge_212 : decode cX1_judge 212 = .ok (.return_, 1) := by decide +kernel
abbrev cX1_chainLaw : ByteArray := prog_3_method_10_code
def yX1_chainLaw : MethodName := ⟨RX1, "chainLaw", "(LChainwork$Chain;I)LChainwork$Law;"⟩
theorem dX1_chainLaw_0 : decode cX1_chainLaw 0 = .ok (.aload_n 1, 1) := by decide +kernel
theorem dX1_chainLaw_1 : decode cX1_chainLaw 1 = .ok (.getfield 158, 3) := by decide +kernel
theorem dX1_chainLaw_4 : decode cX1_chainLaw 4 = .ok (.ifCond .eq 11, 3) := by decide +kernel
theorem dX1_chainLaw_15 : decode cX1_chainLaw 15 = .ok (.aconst_null, 1) := by decide +kernel
theorem dX1_chainLaw_16 : decode cX1_chainLaw 16 = .ok (.areturn, 1) := by decide +kernel
abbrev cX11_provedBy : ByteArray := prog_1_method_60_code
def yX11_provedBy : MethodName := ⟨RX11, "provedBy", "(LChainwork$Chain;I)LChainwork$Law;"⟩
theorem dX11_provedBy_0 : decode cX11_provedBy 0 = .ok (.aload_n 0, 1) := by decide +kernel
theorem dX11_provedBy_1 : decode cX11_provedBy 1 = .ok (.getfield 66, 3) := by decide +kernel
theorem dX11_provedBy_4 : decode cX11_provedBy 4 = .ok (.aload_n 1, 1) := by decide +kernel
theorem dX11_provedBy_5 : decode cX11_provedBy 5 = .ok (.iload_n 2, 1) := by decide +kernel
theorem zw_448 : Cond.methodLink RX11 491 yX1_chainLaw ∈ zT := zT_of 680 (by decide +kernel) (by decide +kernel)
theorem zw_449 : Cond.instanceMethod yX1_chainLaw ∈ zT := zT_of 681 (by decide +kernel) (by decide +kernel)
theorem zw_450 : Cond.selects RX1 yX1_chainLaw yX1_chainLaw ∈ zT := zT_of 682 (by decide +kernel) (by decide +kernel)
theorem zw_451 : Cond.code yX1_chainLaw cX1_chainLaw 8 (some (.object "Chainwork$Law")) ∈ zT := zT_of 683 (by decide +kernel) (by decide +kernel)
theorem dX11_provedBy_6 : decode cX11_provedBy 6 = .ok (.invokevirtual 491, 3) := by decide +kernel
theorem dX11_provedBy_9 : decode cX11_provedBy 9 = .ok (.astore_n 3, 1) := by decide +kernel
theorem dX11_provedBy_10 : decode cX11_provedBy 10 = .ok (.aload_n 3, 1) := by decide +kernel
theorem dX11_provedBy_11 : decode cX11_provedBy 11 = .ok (.ifnonnull 14, 3) := by decide +kernel
theorem dX11_provedBy_14 : decode cX11_provedBy 14 = .ok (.new 91, 3) := by decide +kernel
theorem dX11_provedBy_17 : decode cX11_provedBy 17 = .ok (.dup, 1) := by decide +kernel
theorem dX11_provedBy_18 : decode cX11_provedBy 18 = .ok (.ldc_w 514, 3) := by decide +kernel
theorem dX11_provedBy_21 : decode cX11_provedBy 21 = .ok (.invokespecial 95, 3) := by decide +kernel
theorem dX11_provedBy_24 : decode cX11_provedBy 24 = .ok (.athrow, 1) := by decide +kernel
abbrev cX0_countNames : ByteArray := prog_2_method_8_code
def yX0_countNames : MethodName := ⟨RX0, "countNames", "()I"⟩
theorem dX0_countNames_0 : decode cX0_countNames 0 = .ok (.iconst 0, 1) := by decide +kernel
theorem dX0_countNames_1 : decode cX0_countNames 1 = .ok (.istore_n 1, 1) := by decide +kernel
theorem dX0_countNames_2 : decode cX0_countNames 2 = .ok (.iconst 1, 1) := by decide +kernel
theorem dX0_countNames_3 : decode cX0_countNames 3 = .ok (.istore_n 2, 1) := by decide +kernel
theorem dX0_countNames_4 : decode cX0_countNames 4 = .ok (.iload_n 2, 1) := by decide +kernel
theorem dX0_countNames_5 : decode cX0_countNames 5 = .ok (.aload_n 0, 1) := by decide +kernel
theorem dX0_countNames_6 : decode cX0_countNames 6 = .ok (.getfield 21, 3) := by decide +kernel
theorem dX0_countNames_9 : decode cX0_countNames 9 = .ok (.if_icmp .ge 64, 3) := by decide +kernel
theorem dX0_countNames_73 : decode cX0_countNames 73 = .ok (.iload_n 1, 1) := by decide +kernel
theorem dX0_countNames_74 : decode cX0_countNames 74 = .ok (.ireturn, 1) := by decide +kernel
abbrev cX11_lines : ByteArray := prog_1_method_41_code
def yX11_lines : MethodName := ⟨RX11, "lines", "(I)I"⟩
theorem dX11_lines_0 : decode cX11_lines 0 = .ok (.iload_n 1, 1) := by decide +kernel
theorem dX11_lines_1 : decode cX11_lines 1 = .ok (.iconst 4, 1) := by decide +kernel
theorem dX11_lines_2 : decode cX11_lines 2 = .ok (.invokestatic 117, 3) := by decide +kernel
theorem dX11_lines_5 : decode cX11_lines 5 = .ok (.aload_n 0, 1) := by decide +kernel
theorem dX11_lines_6 : decode cX11_lines 6 = .ok (.getfield 10, 3) := by decide +kernel
theorem zw_452 : Cond.fieldLink RX11 263 RX8 "chains" "[LChainwork$Chain;" ∈ zT := zT_of 104 (by decide +kernel) (by decide +kernel)
theorem dX11_lines_9 : decode cX11_lines 9 = .ok (.getfield 263, 3) := by decide +kernel
theorem dX11_lines_12 : decode cX11_lines 12 = .ok (.iload_n 1, 1) := by decide +kernel
theorem dX11_lines_13 : decode cX11_lines 13 = .ok (.aaload, 1) := by decide +kernel
theorem zw_453 : Cond.fieldLink RX11 317 RX0 "count" "I" ∈ zT := zT_of 62 (by decide +kernel) (by decide +kernel)
theorem dX11_lines_14 : decode cX11_lines 14 = .ok (.getfield 317, 3) := by decide +kernel
theorem dX11_lines_17 : decode cX11_lines 17 = .ok (.ireturn, 1) := by decide +kernel
abbrev cX11_needs : ByteArray := prog_1_method_45_code
def yX11_needs : MethodName := ⟨RX11, "needs", "(I)I"⟩
theorem dX11_needs_0 : decode cX11_needs 0 = .ok (.iload_n 1, 1) := by decide +kernel
theorem dX11_needs_1 : decode cX11_needs 1 = .ok (.iconst 4, 1) := by decide +kernel
theorem dX11_needs_2 : decode cX11_needs 2 = .ok (.invokestatic 117, 3) := by decide +kernel
theorem dX11_needs_5 : decode cX11_needs 5 = .ok (.aload_n 0, 1) := by decide +kernel
theorem dX11_needs_6 : decode cX11_needs 6 = .ok (.getfield 10, 3) := by decide +kernel
theorem dX11_needs_9 : decode cX11_needs 9 = .ok (.getfield 263, 3) := by decide +kernel
theorem dX11_needs_12 : decode cX11_needs 12 = .ok (.iload_n 1, 1) := by decide +kernel
theorem dX11_needs_13 : decode cX11_needs 13 = .ok (.aaload, 1) := by decide +kernel
theorem zw_454 : Cond.methodLink RX11 460 yX0_countNames ∈ zT := zT_of 1460 (by decide +kernel) (by decide +kernel)
theorem zw_455 : Cond.instanceMethod yX0_countNames ∈ zT := zT_of 1461 (by decide +kernel) (by decide +kernel)
theorem zw_456 : Cond.selects RX0 yX0_countNames yX0_countNames ∈ zT := zT_of 1462 (by decide +kernel) (by decide +kernel)
theorem zw_457 : Cond.code yX0_countNames cX0_countNames 5 (some .int) ∈ zT := zT_of 1463 (by decide +kernel) (by decide +kernel)
theorem dX11_needs_14 : decode cX11_needs 14 = .ok (.invokevirtual 460, 3) := by decide +kernel
theorem dX11_needs_17 : decode cX11_needs 17 = .ok (.ireturn, 1) := by decide +kernel
abbrev cX11_join : ByteArray := prog_1_method_20_code
def yX11_join : MethodName := ⟨RX11, "join", "(III)I"⟩
theorem dX11_join_0 : decode cX11_join 0 = .ok (.iload_n 1, 1) := by decide +kernel
theorem dX11_join_1 : decode cX11_join 1 = .ok (.iconst 4, 1) := by decide +kernel
theorem dX11_join_2 : decode cX11_join 2 = .ok (.invokestatic 117, 3) := by decide +kernel
theorem dX11_join_5 : decode cX11_join 5 = .ok (.iload_n 2, 1) := by decide +kernel
theorem dX11_join_6 : decode cX11_join 6 = .ok (.iconst 4, 1) := by decide +kernel
theorem dX11_join_7 : decode cX11_join 7 = .ok (.invokestatic 117, 3) := by decide +kernel
theorem dX11_join_10 : decode cX11_join 10 = .ok (.iload_n 3, 1) := by decide +kernel
theorem dX11_join_11 : decode cX11_join 11 = .ok (.iconst 4, 1) := by decide +kernel
theorem dX11_join_12 : decode cX11_join 12 = .ok (.invokestatic 117, 3) := by decide +kernel
theorem dX11_join_15 : decode cX11_join 15 = .ok (.aload_n 0, 1) := by decide +kernel
theorem dX11_join_16 : decode cX11_join 16 = .ok (.getfield 10, 3) := by decide +kernel
theorem dX11_join_19 : decode cX11_join 19 = .ok (.getfield 263, 3) := by decide +kernel
theorem dX11_join_22 : decode cX11_join 22 = .ok (.iload_n 1, 1) := by decide +kernel
theorem dX11_join_23 : decode cX11_join 23 = .ok (.aaload, 1) := by decide +kernel
theorem dX11_join_24 : decode cX11_join 24 = .ok (.astore 4, 2) := by decide +kernel
theorem dX11_join_26 : decode cX11_join 26 = .ok (.aload_n 0, 1) := by decide +kernel
theorem dX11_join_27 : decode cX11_join 27 = .ok (.getfield 10, 3) := by decide +kernel
theorem dX11_join_30 : decode cX11_join 30 = .ok (.getfield 263, 3) := by decide +kernel
theorem dX11_join_33 : decode cX11_join 33 = .ok (.iload_n 2, 1) := by decide +kernel
theorem dX11_join_34 : decode cX11_join 34 = .ok (.aaload, 1) := by decide +kernel
theorem dX11_join_35 : decode cX11_join 35 = .ok (.astore 5, 2) := by decide +kernel
theorem dX11_join_37 : decode cX11_join 37 = .ok (.aload 4, 2) := by decide +kernel
theorem dX11_join_39 : decode cX11_join 39 = .ok (.getfield 317, 3) := by decide +kernel
theorem dX11_join_42 : decode cX11_join 42 = .ok (.ifCond .eq 29, 3) := by decide +kernel
theorem dX11_join_71 : decode cX11_join 71 = .ok (.new 91, 3) := by decide +kernel
theorem dX11_join_74 : decode cX11_join 74 = .ok (.dup, 1) := by decide +kernel
theorem dX11_join_75 : decode cX11_join 75 = .ok (.ldc_w 357, 3) := by decide +kernel
theorem dX11_join_78 : decode cX11_join 78 = .ok (.invokespecial 95, 3) := by decide +kernel
theorem dX11_join_81 : decode cX11_join 81 = .ok (.athrow, 1) := by decide +kernel
abbrev cX11_cut : ByteArray := prog_1_method_21_code
def yX11_cut : MethodName := ⟨RX11, "cut", "(IIII)I"⟩
theorem dX11_cut_0 : decode cX11_cut 0 = .ok (.iload_n 1, 1) := by decide +kernel
theorem dX11_cut_1 : decode cX11_cut 1 = .ok (.iconst 4, 1) := by decide +kernel
theorem dX11_cut_2 : decode cX11_cut 2 = .ok (.invokestatic 117, 3) := by decide +kernel
theorem dX11_cut_5 : decode cX11_cut 5 = .ok (.iload_n 2, 1) := by decide +kernel
theorem dX11_cut_6 : decode cX11_cut 6 = .ok (.aload_n 0, 1) := by decide +kernel
theorem dX11_cut_7 : decode cX11_cut 7 = .ok (.getfield 10, 3) := by decide +kernel
theorem dX11_cut_10 : decode cX11_cut 10 = .ok (.getfield 263, 3) := by decide +kernel
theorem dX11_cut_13 : decode cX11_cut 13 = .ok (.iload_n 1, 1) := by decide +kernel
theorem dX11_cut_14 : decode cX11_cut 14 = .ok (.aaload, 1) := by decide +kernel
theorem dX11_cut_15 : decode cX11_cut 15 = .ok (.getfield 317, 3) := by decide +kernel
theorem dX11_cut_18 : decode cX11_cut 18 = .ok (.invokestatic 117, 3) := by decide +kernel
abbrev cX11_take : ByteArray := prog_1_method_22_code
def yX11_take : MethodName := ⟨RX11, "take", "(III)I"⟩
theorem dX11_take_0 : decode cX11_take 0 = .ok (.iload_n 1, 1) := by decide +kernel
theorem dX11_take_1 : decode cX11_take 1 = .ok (.iconst 4, 1) := by decide +kernel
theorem dX11_take_2 : decode cX11_take 2 = .ok (.invokestatic 117, 3) := by decide +kernel
theorem dX11_take_5 : decode cX11_take 5 = .ok (.iload_n 2, 1) := by decide +kernel
theorem dX11_take_6 : decode cX11_take 6 = .ok (.aload_n 0, 1) := by decide +kernel
theorem dX11_take_7 : decode cX11_take 7 = .ok (.getfield 10, 3) := by decide +kernel
theorem dX11_take_10 : decode cX11_take 10 = .ok (.getfield 263, 3) := by decide +kernel
theorem dX11_take_13 : decode cX11_take 13 = .ok (.iload_n 1, 1) := by decide +kernel
theorem dX11_take_14 : decode cX11_take 14 = .ok (.aaload, 1) := by decide +kernel
theorem dX11_take_15 : decode cX11_take 15 = .ok (.getfield 317, 3) := by decide +kernel
theorem dX11_take_18 : decode cX11_take 18 = .ok (.invokestatic 117, 3) := by decide +kernel
abbrev cX11_stepAt : ByteArray := prog_1_method_44_code
def yX11_stepAt : MethodName := ⟨RX11, "stepAt", "(III)I"⟩
theorem dX11_stepAt_0 : decode cX11_stepAt 0 = .ok (.iload_n 1, 1) := by decide +kernel
theorem dX11_stepAt_1 : decode cX11_stepAt 1 = .ok (.iconst 4, 1) := by decide +kernel
theorem dX11_stepAt_2 : decode cX11_stepAt 2 = .ok (.invokestatic 117, 3) := by decide +kernel
theorem dX11_stepAt_5 : decode cX11_stepAt 5 = .ok (.aload_n 0, 1) := by decide +kernel
theorem dX11_stepAt_6 : decode cX11_stepAt 6 = .ok (.getfield 10, 3) := by decide +kernel
theorem dX11_stepAt_9 : decode cX11_stepAt 9 = .ok (.getfield 263, 3) := by decide +kernel
theorem dX11_stepAt_12 : decode cX11_stepAt 12 = .ok (.iload_n 1, 1) := by decide +kernel
theorem dX11_stepAt_13 : decode cX11_stepAt 13 = .ok (.aaload, 1) := by decide +kernel
theorem dX11_stepAt_14 : decode cX11_stepAt 14 = .ok (.astore 4, 2) := by decide +kernel
theorem dX11_stepAt_16 : decode cX11_stepAt 16 = .ok (.iload_n 2, 1) := by decide +kernel
theorem dX11_stepAt_17 : decode cX11_stepAt 17 = .ok (.aload 4, 2) := by decide +kernel
theorem dX11_stepAt_19 : decode cX11_stepAt 19 = .ok (.getfield 317, 3) := by decide +kernel
theorem dX11_stepAt_22 : decode cX11_stepAt 22 = .ok (.invokestatic 117, 3) := by decide +kernel
abbrev cX11_wrong : ByteArray := prog_1_method_42_code
def yX11_wrong : MethodName := ⟨RX11, "wrong", "(I)I"⟩
theorem dX11_wrong_0 : decode cX11_wrong 0 = .ok (.iload_n 1, 1) := by decide +kernel
theorem dX11_wrong_1 : decode cX11_wrong 1 = .ok (.iconst 4, 1) := by decide +kernel
theorem dX11_wrong_2 : decode cX11_wrong 2 = .ok (.invokestatic 117, 3) := by decide +kernel
theorem dX11_wrong_5 : decode cX11_wrong 5 = .ok (.aload_n 0, 1) := by decide +kernel
theorem dX11_wrong_6 : decode cX11_wrong 6 = .ok (.getfield 66, 3) := by decide +kernel
theorem dX11_wrong_9 : decode cX11_wrong 9 = .ok (.aload_n 0, 1) := by decide +kernel
theorem dX11_wrong_10 : decode cX11_wrong 10 = .ok (.getfield 10, 3) := by decide +kernel
theorem dX11_wrong_13 : decode cX11_wrong 13 = .ok (.aload_n 0, 1) := by decide +kernel
theorem dX11_wrong_14 : decode cX11_wrong 14 = .ok (.getfield 10, 3) := by decide +kernel
theorem dX11_wrong_17 : decode cX11_wrong 17 = .ok (.getfield 263, 3) := by decide +kernel
theorem dX11_wrong_20 : decode cX11_wrong 20 = .ok (.iload_n 1, 1) := by decide +kernel
theorem dX11_wrong_21 : decode cX11_wrong 21 = .ok (.aaload, 1) := by decide +kernel
theorem dX11_wrong_22 : decode cX11_wrong 22 = .ok (.aload_n 0, 1) := by decide +kernel
theorem dX11_wrong_23 : decode cX11_wrong 23 = .ok (.getfield 10, 3) := by decide +kernel
theorem dX11_wrong_26 : decode cX11_wrong 26 = .ok (.invokevirtual 334, 3) := by decide +kernel
theorem zw_458 : Cond.methodLink RX11 267 yX1_judge ∈ zT := zT_of 604 (by decide +kernel) (by decide +kernel)
theorem zw_459 : Cond.instanceMethod yX1_judge ∈ zT := zT_of 605 (by decide +kernel) (by decide +kernel)
theorem zw_460 : Cond.selects RX1 yX1_judge yX1_judge ∈ zT := zT_of 606 (by decide +kernel) (by decide +kernel)
theorem zw_461 : Cond.code yX1_judge cX1_judge 8 none ∈ zT := zT_of 607 (by decide +kernel) (by decide +kernel)
theorem dX11_wrong_29 : decode cX11_wrong 29 = .ok (.invokevirtual 267, 3) := by decide +kernel
theorem dX11_wrong_32 : decode cX11_wrong 32 = .ok (.aload_n 0, 1) := by decide +kernel
theorem dX11_wrong_33 : decode cX11_wrong 33 = .ok (.getfield 66, 3) := by decide +kernel
theorem zw_462 : Cond.fieldLink RX11 441 RX1 "wrongLine" "I" ∈ zT := zT_of 248 (by decide +kernel) (by decide +kernel)
theorem dX11_wrong_36 : decode cX11_wrong 36 = .ok (.getfield 441, 3) := by decide +kernel
theorem dX11_wrong_39 : decode cX11_wrong 39 = .ok (.ireturn, 1) := by decide +kernel
abbrev cX11_relation : ByteArray := prog_1_method_43_code
def yX11_relation : MethodName := ⟨RX11, "relation", "(I)I"⟩
theorem dX11_relation_0 : decode cX11_relation 0 = .ok (.iload_n 1, 1) := by decide +kernel
theorem dX11_relation_1 : decode cX11_relation 1 = .ok (.iconst 4, 1) := by decide +kernel
theorem dX11_relation_2 : decode cX11_relation 2 = .ok (.invokestatic 117, 3) := by decide +kernel
theorem dX11_relation_5 : decode cX11_relation 5 = .ok (.aload_n 0, 1) := by decide +kernel
theorem dX11_relation_6 : decode cX11_relation 6 = .ok (.getfield 66, 3) := by decide +kernel
theorem dX11_relation_9 : decode cX11_relation 9 = .ok (.aload_n 0, 1) := by decide +kernel
theorem dX11_relation_10 : decode cX11_relation 10 = .ok (.getfield 10, 3) := by decide +kernel
theorem dX11_relation_13 : decode cX11_relation 13 = .ok (.aload_n 0, 1) := by decide +kernel
theorem dX11_relation_14 : decode cX11_relation 14 = .ok (.getfield 10, 3) := by decide +kernel
theorem dX11_relation_17 : decode cX11_relation 17 = .ok (.getfield 263, 3) := by decide +kernel
theorem dX11_relation_20 : decode cX11_relation 20 = .ok (.iload_n 1, 1) := by decide +kernel
theorem dX11_relation_21 : decode cX11_relation 21 = .ok (.aaload, 1) := by decide +kernel
theorem dX11_relation_22 : decode cX11_relation 22 = .ok (.aload_n 0, 1) := by decide +kernel
theorem dX11_relation_23 : decode cX11_relation 23 = .ok (.getfield 10, 3) := by decide +kernel
theorem dX11_relation_26 : decode cX11_relation 26 = .ok (.invokevirtual 334, 3) := by decide +kernel
theorem dX11_relation_29 : decode cX11_relation 29 = .ok (.invokevirtual 267, 3) := by decide +kernel
theorem dX11_relation_32 : decode cX11_relation 32 = .ok (.aload_n 0, 1) := by decide +kernel
theorem dX11_relation_33 : decode cX11_relation 33 = .ok (.getfield 66, 3) := by decide +kernel
theorem zw_463 : Cond.fieldLink RX11 444 RX1 "chainRelation" "I" ∈ zT := zT_of 250 (by decide +kernel) (by decide +kernel)
theorem dX11_relation_36 : decode cX11_relation 36 = .ok (.getfield 444, 3) := by decide +kernel
theorem dX11_relation_39 : decode cX11_relation 39 = .ok (.ireturn, 1) := by decide +kernel
abbrev cX11_lemma : ByteArray := prog_1_method_13_code
def yX11_lemma : MethodName := ⟨RX11, "lemma", "(II)I"⟩
theorem dX11_lemma_0 : decode cX11_lemma 0 = .ok (.iload_n 1, 1) := by decide +kernel
theorem dX11_lemma_1 : decode cX11_lemma 1 = .ok (.bipush 99, 2) := by decide +kernel
theorem dX11_lemma_3 : decode cX11_lemma 3 = .ok (.invokestatic 84, 3) := by decide +kernel
theorem dX11_lemma_6 : decode cX11_lemma 6 = .ok (.iload_n 2, 1) := by decide +kernel
theorem dX11_lemma_7 : decode cX11_lemma 7 = .ok (.iconst 4, 1) := by decide +kernel
theorem dX11_lemma_8 : decode cX11_lemma 8 = .ok (.invokestatic 117, 3) := by decide +kernel
theorem dX11_lemma_11 : decode cX11_lemma 11 = .ok (.aload_n 0, 1) := by decide +kernel
theorem dX11_lemma_12 : decode cX11_lemma 12 = .ok (.getfield 66, 3) := by decide +kernel
theorem dX11_lemma_15 : decode cX11_lemma 15 = .ok (.aload_n 0, 1) := by decide +kernel
theorem dX11_lemma_16 : decode cX11_lemma 16 = .ok (.getfield 10, 3) := by decide +kernel
theorem dX11_lemma_19 : decode cX11_lemma 19 = .ok (.aload_n 0, 1) := by decide +kernel
theorem dX11_lemma_20 : decode cX11_lemma 20 = .ok (.getfield 10, 3) := by decide +kernel
theorem dX11_lemma_23 : decode cX11_lemma 23 = .ok (.getfield 263, 3) := by decide +kernel
theorem dX11_lemma_26 : decode cX11_lemma 26 = .ok (.iload_n 2, 1) := by decide +kernel
theorem dX11_lemma_27 : decode cX11_lemma 27 = .ok (.aaload, 1) := by decide +kernel
theorem dX11_lemma_28 : decode cX11_lemma 28 = .ok (.iconst 0, 1) := by decide +kernel
theorem dX11_lemma_29 : decode cX11_lemma 29 = .ok (.invokevirtual 267, 3) := by decide +kernel
theorem dX11_lemma_32 : decode cX11_lemma 32 = .ok (.aload_n 0, 1) := by decide +kernel
theorem dX11_lemma_33 : decode cX11_lemma 33 = .ok (.aload_n 0, 1) := by decide +kernel
theorem dX11_lemma_34 : decode cX11_lemma 34 = .ok (.getfield 10, 3) := by decide +kernel
theorem dX11_lemma_37 : decode cX11_lemma 37 = .ok (.getfield 263, 3) := by decide +kernel
theorem dX11_lemma_40 : decode cX11_lemma 40 = .ok (.iload_n 2, 1) := by decide +kernel
theorem dX11_lemma_41 : decode cX11_lemma 41 = .ok (.aaload, 1) := by decide +kernel
theorem dX11_lemma_42 : decode cX11_lemma 42 = .ok (.iload_n 1, 1) := by decide +kernel
theorem zw_464 : Cond.methodLink RX11 271 yX11_provedBy ∈ zT := zT_of 1100 (by decide +kernel) (by decide +kernel)
theorem zw_465 : Cond.instanceMethod yX11_provedBy ∈ zT := zT_of 1102 (by decide +kernel) (by decide +kernel)
theorem zw_466 : Cond.selects RX11 yX11_provedBy yX11_provedBy ∈ zT := zT_ofS 25 (by decide +kernel) (by decide +kernel)
theorem zw_467 : Cond.code yX11_provedBy cX11_provedBy 4 (some (.object "Chainwork$Law")) ∈ zT := zT_of 1103 (by decide +kernel) (by decide +kernel)
theorem dX11_lemma_43 : decode cX11_lemma 43 = .ok (.invokevirtual 271, 3) := by decide +kernel
abbrev cX11_signs : ByteArray := prog_1_method_33_code
def yX11_signs : MethodName := ⟨RX11, "signs", "()I"⟩
theorem dX11_signs_0 : decode cX11_signs 0 = .ok (.aload_n 0, 1) := by decide +kernel
theorem dX11_signs_1 : decode cX11_signs 1 = .ok (.getfield 10, 3) := by decide +kernel
theorem dX11_signs_4 : decode cX11_signs 4 = .ok (.getfield 88, 3) := by decide +kernel
theorem dX11_signs_7 : decode cX11_signs 7 = .ok (.ireturn, 1) := by decide +kernel
abbrev cX11_laws : ByteArray := prog_1_method_37_code
def yX11_laws : MethodName := ⟨RX11, "laws", "()I"⟩
theorem dX11_laws_0 : decode cX11_laws 0 = .ok (.aload_n 0, 1) := by decide +kernel
theorem dX11_laws_1 : decode cX11_laws 1 = .ok (.getfield 10, 3) := by decide +kernel
theorem zw_468 : Cond.fieldLink RX11 181 RX8 "lawCount" "I" ∈ zT := zT_of 88 (by decide +kernel) (by decide +kernel)
theorem dX11_laws_4 : decode cX11_laws 4 = .ok (.getfield 181, 3) := by decide +kernel
theorem dX11_laws_7 : decode cX11_laws 7 = .ok (.ireturn, 1) := by decide +kernel
abbrev cX11_open : ByteArray := prog_1_method_40_code
def yX11_open : MethodName := ⟨RX11, "open", "()I"⟩
theorem dX11_open_0 : decode cX11_open 0 = .ok (.aload_n 0, 1) := by decide +kernel
theorem dX11_open_1 : decode cX11_open 1 = .ok (.getfield 10, 3) := by decide +kernel
theorem dX11_open_4 : decode cX11_open 4 = .ok (.getfield 248, 3) := by decide +kernel
theorem dX11_open_7 : decode cX11_open 7 = .ok (.ireturn, 1) := by decide +kernel
abbrev cX11_clearText : ByteArray := prog_1_method_28_code
def yX11_clearText : MethodName := ⟨RX11, "clearText", "()I"⟩
theorem dX11_clearText_0 : decode cX11_clearText 0 = .ok (.aload_n 0, 1) := by decide +kernel
theorem dX11_clearText_1 : decode cX11_clearText 1 = .ok (.getfield 42, 3) := by decide +kernel
theorem dX11_clearText_4 : decode cX11_clearText 4 = .ok (.getfield 400, 3) := by decide +kernel
theorem dX11_clearText_7 : decode cX11_clearText 7 = .ok (.istore_n 1, 1) := by decide +kernel
theorem dX11_clearText_8 : decode cX11_clearText 8 = .ok (.aload_n 0, 1) := by decide +kernel
theorem dX11_clearText_9 : decode cX11_clearText 9 = .ok (.getfield 42, 3) := by decide +kernel
theorem dX11_clearText_12 : decode cX11_clearText 12 = .ok (.iconst 0, 1) := by decide +kernel
theorem dX11_clearText_13 : decode cX11_clearText 13 = .ok (.putfield 400, 3) := by decide +kernel
theorem dX11_clearText_16 : decode cX11_clearText 16 = .ok (.iload_n 1, 1) := by decide +kernel
theorem dX11_clearText_17 : decode cX11_clearText 17 = .ok (.ireturn, 1) := by decide +kernel
abbrev cX11_meanLines : ByteArray := prog_1_method_49_code
def yX11_meanLines : MethodName := ⟨RX11, "meanLines", "()D"⟩
theorem dX11_meanLines_0 : decode cX11_meanLines 0 = .ok (.iconst 0, 1) := by decide +kernel
theorem dX11_meanLines_1 : decode cX11_meanLines 1 = .ok (.istore_n 1, 1) := by decide +kernel
theorem dX11_meanLines_2 : decode cX11_meanLines 2 = .ok (.iconst 0, 1) := by decide +kernel
theorem dX11_meanLines_3 : decode cX11_meanLines 3 = .ok (.istore_n 2, 1) := by decide +kernel
theorem dX11_meanLines_4 : decode cX11_meanLines 4 = .ok (.iconst 0, 1) := by decide +kernel
theorem dX11_meanLines_5 : decode cX11_meanLines 5 = .ok (.istore_n 3, 1) := by decide +kernel
theorem dX11_meanLines_6 : decode cX11_meanLines 6 = .ok (.iload_n 3, 1) := by decide +kernel
theorem dX11_meanLines_7 : decode cX11_meanLines 7 = .ok (.iconst 4, 1) := by decide +kernel
theorem dX11_meanLines_8 : decode cX11_meanLines 8 = .ok (.if_icmp .ge 47, 3) := by decide +kernel
theorem dX11_meanLines_11 : decode cX11_meanLines 11 = .ok (.iload_n 1, 1) := by decide +kernel
theorem dX11_meanLines_12 : decode cX11_meanLines 12 = .ok (.aload_n 0, 1) := by decide +kernel
theorem dX11_meanLines_13 : decode cX11_meanLines 13 = .ok (.getfield 10, 3) := by decide +kernel
theorem dX11_meanLines_16 : decode cX11_meanLines 16 = .ok (.getfield 263, 3) := by decide +kernel
theorem dX11_meanLines_19 : decode cX11_meanLines 19 = .ok (.iload_n 3, 1) := by decide +kernel
theorem dX11_meanLines_20 : decode cX11_meanLines 20 = .ok (.aaload, 1) := by decide +kernel
theorem dX11_meanLines_21 : decode cX11_meanLines 21 = .ok (.getfield 317, 3) := by decide +kernel
theorem dX11_meanLines_24 : decode cX11_meanLines 24 = .ok (.iadd, 1) := by decide +kernel
theorem dX11_meanLines_25 : decode cX11_meanLines 25 = .ok (.istore_n 1, 1) := by decide +kernel
theorem dX11_meanLines_26 : decode cX11_meanLines 26 = .ok (.iload_n 2, 1) := by decide +kernel
theorem dX11_meanLines_27 : decode cX11_meanLines 27 = .ok (.aload_n 0, 1) := by decide +kernel
theorem dX11_meanLines_28 : decode cX11_meanLines 28 = .ok (.getfield 10, 3) := by decide +kernel
theorem dX11_meanLines_31 : decode cX11_meanLines 31 = .ok (.getfield 263, 3) := by decide +kernel
theorem dX11_meanLines_34 : decode cX11_meanLines 34 = .ok (.iload_n 3, 1) := by decide +kernel
theorem dX11_meanLines_35 : decode cX11_meanLines 35 = .ok (.aaload, 1) := by decide +kernel
theorem dX11_meanLines_36 : decode cX11_meanLines 36 = .ok (.getfield 317, 3) := by decide +kernel
theorem dX11_meanLines_39 : decode cX11_meanLines 39 = .ok (.ifCond .le 7, 3) := by decide +kernel
theorem dX11_meanLines_46 : decode cX11_meanLines 46 = .ok (.iconst 0, 1) := by decide +kernel
theorem dX11_meanLines_47 : decode cX11_meanLines 47 = .ok (.iadd, 1) := by decide +kernel
theorem dX11_meanLines_48 : decode cX11_meanLines 48 = .ok (.istore_n 2, 1) := by decide +kernel
theorem dX11_meanLines_49 : decode cX11_meanLines 49 = .ok (.iinc 3 1, 3) := by decide +kernel
theorem dX11_meanLines_52 : decode cX11_meanLines 52 = .ok (.goto (-46), 3) := by decide +kernel
theorem dX11_meanLines_55 : decode cX11_meanLines 55 = .ok (.iload_n 2, 1) := by decide +kernel
theorem dX11_meanLines_56 : decode cX11_meanLines 56 = .ok (.ifCond .ne 7, 3) := by decide +kernel
theorem dX11_meanLines_59 : decode cX11_meanLines 59 = .ok (.dconst 0, 1) := by decide +kernel
theorem dX11_meanLines_60 : decode cX11_meanLines 60 = .ok (.goto 8, 3) := by decide +kernel
theorem dX11_meanLines_68 : decode cX11_meanLines 68 = .ok (.dreturn, 1) := by decide +kernel
abbrev cX11_checksum : ByteArray := prog_1_method_51_code
def yX11_checksum : MethodName := ⟨RX11, "checksum", "()J"⟩
theorem zw_469 : Cond.constantLong RX11 480 7 ∈ zT := zT_of 573 (by decide +kernel) (by decide +kernel)
theorem dX11_checksum_0 : decode cX11_checksum 0 = .ok (.ldc2_w 480, 3) := by decide +kernel
theorem dX11_checksum_3 : decode cX11_checksum 3 = .ok (.lstore_n 1, 1) := by decide +kernel
theorem dX11_checksum_4 : decode cX11_checksum 4 = .ok (.iconst 0, 1) := by decide +kernel
theorem dX11_checksum_5 : decode cX11_checksum 5 = .ok (.istore_n 3, 1) := by decide +kernel
theorem dX11_checksum_6 : decode cX11_checksum 6 = .ok (.iload_n 3, 1) := by decide +kernel
theorem dX11_checksum_7 : decode cX11_checksum 7 = .ok (.bipush 100, 2) := by decide +kernel
theorem dX11_checksum_9 : decode cX11_checksum 9 = .ok (.if_icmp .ge 62, 3) := by decide +kernel
theorem dX11_checksum_71 : decode cX11_checksum 71 = .ok (.lload_n 1, 1) := by decide +kernel
theorem dX11_checksum_72 : decode cX11_checksum 72 = .ok (.lreturn, 1) := by decide +kernel
theorem dX11_checksum_12 : decode cX11_checksum 12 = .ok (.aload_n 0, 1) := by decide +kernel
theorem dX11_checksum_13 : decode cX11_checksum 13 = .ok (.getfield 10, 3) := by decide +kernel
theorem zw_470 : Cond.fieldLink RX11 222 RX8 "laws" "[LChainwork$Law;" ∈ zT := zT_of 85 (by decide +kernel) (by decide +kernel)
theorem dX11_checksum_16 : decode cX11_checksum 16 = .ok (.getfield 222, 3) := by decide +kernel
theorem dX11_checksum_19 : decode cX11_checksum 19 = .ok (.iload_n 3, 1) := by decide +kernel
theorem dX11_checksum_20 : decode cX11_checksum 20 = .ok (.aaload, 1) := by decide +kernel
theorem dX11_checksum_21 : decode cX11_checksum 21 = .ok (.astore 4, 2) := by decide +kernel
theorem dX11_checksum_23 : decode cX11_checksum 23 = .ok (.aload 4, 2) := by decide +kernel
theorem dX11_checksum_25 : decode cX11_checksum 25 = .ok (.ifnull 40, 3) := by decide +kernel
theorem dX11_checksum_65 : decode cX11_checksum 65 = .ok (.iinc 3 1, 3) := by decide +kernel
theorem dX11_checksum_68 : decode cX11_checksum 68 = .ok (.goto (-62), 3) := by decide +kernel
abbrev cX11_provedShare : ByteArray := prog_1_method_50_code
def yX11_provedShare : MethodName := ⟨RX11, "provedShare", "()F"⟩
theorem dX11_provedShare_0 : decode cX11_provedShare 0 = .ok (.iconst 0, 1) := by decide +kernel
theorem dX11_provedShare_1 : decode cX11_provedShare 1 = .ok (.istore_n 1, 1) := by decide +kernel
theorem dX11_provedShare_2 : decode cX11_provedShare 2 = .ok (.iconst 0, 1) := by decide +kernel
theorem dX11_provedShare_3 : decode cX11_provedShare 3 = .ok (.istore_n 2, 1) := by decide +kernel
theorem dX11_provedShare_4 : decode cX11_provedShare 4 = .ok (.iload_n 2, 1) := by decide +kernel
theorem dX11_provedShare_5 : decode cX11_provedShare 5 = .ok (.bipush 100, 2) := by decide +kernel
theorem dX11_provedShare_7 : decode cX11_provedShare 7 = .ok (.if_icmp .ge 38, 3) := by decide +kernel
theorem dX11_provedShare_10 : decode cX11_provedShare 10 = .ok (.aload_n 0, 1) := by decide +kernel
theorem dX11_provedShare_11 : decode cX11_provedShare 11 = .ok (.getfield 10, 3) := by decide +kernel
theorem dX11_provedShare_14 : decode cX11_provedShare 14 = .ok (.getfield 222, 3) := by decide +kernel
theorem dX11_provedShare_17 : decode cX11_provedShare 17 = .ok (.iload_n 2, 1) := by decide +kernel
theorem dX11_provedShare_18 : decode cX11_provedShare 18 = .ok (.aaload, 1) := by decide +kernel
theorem dX11_provedShare_19 : decode cX11_provedShare 19 = .ok (.astore_n 3, 1) := by decide +kernel
theorem dX11_provedShare_20 : decode cX11_provedShare 20 = .ok (.iload_n 1, 1) := by decide +kernel
theorem dX11_provedShare_21 : decode cX11_provedShare 21 = .ok (.aload_n 3, 1) := by decide +kernel
theorem dX11_provedShare_22 : decode cX11_provedShare 22 = .ok (.ifnull 14, 3) := by decide +kernel
theorem dX11_provedShare_36 : decode cX11_provedShare 36 = .ok (.iconst 0, 1) := by decide +kernel
theorem dX11_provedShare_37 : decode cX11_provedShare 37 = .ok (.iadd, 1) := by decide +kernel
theorem dX11_provedShare_38 : decode cX11_provedShare 38 = .ok (.istore_n 1, 1) := by decide +kernel
theorem dX11_provedShare_39 : decode cX11_provedShare 39 = .ok (.iinc 2 1, 3) := by decide +kernel
theorem dX11_provedShare_42 : decode cX11_provedShare 42 = .ok (.goto (-38), 3) := by decide +kernel
theorem dX11_provedShare_45 : decode cX11_provedShare 45 = .ok (.aload_n 0, 1) := by decide +kernel
theorem dX11_provedShare_46 : decode cX11_provedShare 46 = .ok (.getfield 10, 3) := by decide +kernel
theorem dX11_provedShare_49 : decode cX11_provedShare 49 = .ok (.getfield 181, 3) := by decide +kernel
theorem dX11_provedShare_52 : decode cX11_provedShare 52 = .ok (.ifCond .ne 7, 3) := by decide +kernel
theorem dX11_provedShare_55 : decode cX11_provedShare 55 = .ok (.fconst 0, 1) := by decide +kernel
theorem dX11_provedShare_56 : decode cX11_provedShare 56 = .ok (.goto 14, 3) := by decide +kernel
theorem dX11_provedShare_70 : decode cX11_provedShare 70 = .ok (.freturn, 1) := by decide +kernel
theorem zcl4 {x : Int32} {n : Nat} (h0 : 0 ≤ x.toInt) (h4 : x.toInt < n) : x.toNatClampNeg < n := by
  show x.toInt.toNat < n
  omega
set_option maxHeartbeats 4000000 in
set_option maxRecDepth 100000 in
theorem k_X1_judge (l : Launch) (sz : Nat) (D : va_G) (h cs : Nat → Nat) (n : Int32) : Met l yX1_judge (.code yX1_judge cX1_judge 8 none :: zT) ({ frames := 0, cells := 0, slots := 0, locals := 0 }) (va_Pc [.ref (h 46), .ref (h 1), .ref (h 8), .int n] (zM D [((h 46), .inr (1, [.ref (h 84), .ref (h 85), .ref (h 86), .ref (h 87), .int 0, .int 0, .int (-1), .int 0, .int (-1), .int (-1), .int 0])), ((h 8), .inr (0, [.ref (h 102), .ref (h 103), .int 0]))] [] sz)) (va_Qv (fun (_ : Unit) => True) (fun _ t => zE D [((h 46), .inr (1, [.ref (h 84), .ref (h 85), .ref (h 86), .ref (h 87), .int 0, .int 0, .int (-1), .int 0, .int (-1), .int (-1), .int 0])), ((h 8), .inr (0, [.ref (h 102), .ref (h 103), .int 0]))] [] (va_A [((h 46), .inr (1, [.ref (h 84), .ref (h 85), .ref (h 86), .ref (h 87), .int 0, .int 0, .int (-1), .int 0, .int (-1), .int (-1), .int 0])), ((h 8), .inr (0, [.ref (h 102), .ref (h 103), .int 0]))] sz) t) (va_A [((h 46), .inr (1, [.ref (h 84), .ref (h 85), .ref (h 86), .ref (h 87), .int 0, .int 0, .int (-1), .int 0, .int (-1), .int (-1), .int 0])), ((h 8), .inr (0, [.ref (h 102), .ref (h 103), .int 0]))] sz)) 0 0 (va_A [((h 46), .inr (1, [.ref (h 84), .ref (h 85), .ref (h 86), .ref (h 87), .int 0, .int 0, .int (-1), .int 0, .int (-1), .int (-1), .int 0])), ((h 8), .inr (0, [.ref (h 102), .ref (h 103), .int 0]))] sz) := by
  refine Met.ofW (cc := cX1_judge) (maxL := 8) (ret := none) (by decide) rfl ?_
  intro p e s m args below meth c s₁ B hml hv
  obtain ⟨rfl, hsz, hP, hK, hD0⟩ := hv
  have hx := B.exec
  have hb := B.bytes
  have hr := B.returns
  have hts := atoms_spec (ws := (.code yX1_judge cX1_judge 8 none :: zT)) B.pre
  have ht : ∀ w ∈ zT, w.before _ s = true := fun w h => hts w (List.mem_cons_of_mem _ h)
  have hown : s.vm.findClass RX1 = some m.cls := findClass_of_methodNamed B.named
  have hlocks := B.notSynchronized
  subst hsz
  have hD := hD0.self (sz := s.heap.size)
  generalize hAe : va_A [((h 46), .inr (1, [.ref (h 84), .ref (h 85), .ref (h 86), .ref (h 87), .int 0, .int 0, .int (-1), .int 0, .int (-1), .int (-1), .int 0])), ((h 8), .inr (0, [.ref (h 102), .ref (h 103), .int 0]))] s.heap.size = A at hD ⊢
  have hA : ∀ q : Nat, s.heap.size ≤ q → A q := fun q h => by rw [← hAe]; exact Or.inr h
  have hS : va_S A s.heap s.heap [] := va_S.rf
  have hP : va_P D vwCl [((h 46), .inr (1, [.ref (h 84), .ref (h 85), .ref (h 86), .ref (h 87), .int 0, .int 0, .int (-1), .int 0, .int (-1), .int (-1), .int 0])), ((h 8), .inr (0, [.ref (h 102), .ref (h 103), .int 0]))] s.heap := hP
  have hl := lv_entry ([.ref (h 46), .ref (h 1), .ref (h 8), .int n]) (n := 8) (Nat.le_of_ble_eq_true rfl)
  rw [lg_entry_eq]
  generalize (lg_sl ([.ref (h 46), .ref (h 1), .ref (h 8), .int n]) ++ List.replicate (8 - (lg_sl ([.ref (h 46), .ref (h 1), .ref (h 8), .int n])).length) Slot.unset).toArray = ls at hl ⊢
  have hl : lv_has ls 8 [(0, .ref (h 46)), (1, .ref (h 1)), (2, .ref (h 8)), (3, .int n)] := hl
  skip
  refine lv_aload_n hx hb dX1_judge_0 rfl (lv_at hl 0 rfl) ?_
  refine lv_iconst (v := (-1)) hx hb dX1_judge_1 (by decide) ?_
  refine va_put (D := D) (ci := 1) (v := .int (-1)) (ty := .int) (C := RX1) (T := TX1) (N := 11) hx hb ht zinX1 tyX1 tyX1_ok nmX1 hown hK hP hD hS 0 rfl rfl 8 (by decide) (ht _ zw_268) (fun _ h9 => h9) rfl (by decide +kernel) rfl rfl (Nat.le_of_ble_eq_true rfl) dX1_judge_2 (fun H locs hP hD hS => ?_)
  have hP : va_P D vwCl [((h 46), .inr (1, [.ref (h 84), .ref (h 85), .ref (h 86), .ref (h 87), .int 0, .int 0, .int (-1), .int 0, .int (-1), .int (-1), .int 0])), ((h 8), .inr (0, [.ref (h 102), .ref (h 103), .int 0]))] H := hP
  have hD : va_D A [((h 46), .inr (1, [.ref (h 84), .ref (h 85), .ref (h 86), .ref (h 87), .int 0, .int 0, .int (-1), .int 0, .int (-1), .int (-1), .int 0])), ((h 8), .inr (0, [.ref (h 102), .ref (h 103), .int 0]))] := hD
  refine lv_aload_n hx hb dX1_judge_5 rfl (lv_at hl 0 rfl) ?_
  refine lv_iconst (v := 0) hx hb dX1_judge_6 (by decide) ?_
  refine va_put (D := D) (ci := 1) (v := .int 0) (ty := .int) (C := RX1) (T := TX1) (N := 11) hx hb ht zinX1 tyX1 tyX1_ok nmX1 hown hK hP hD hS 0 rfl rfl 10 (by decide) (ht _ zw_270) (fun _ h9 => h9) rfl (by decide +kernel) rfl rfl (Nat.le_of_ble_eq_true rfl) dX1_judge_7 (fun H locs hP hD hS => ?_)
  have hP : va_P D vwCl [((h 46), .inr (1, [.ref (h 84), .ref (h 85), .ref (h 86), .ref (h 87), .int 0, .int 0, .int (-1), .int 0, .int (-1), .int (-1), .int 0])), ((h 8), .inr (0, [.ref (h 102), .ref (h 103), .int 0]))] H := hP
  have hD : va_D A [((h 46), .inr (1, [.ref (h 84), .ref (h 85), .ref (h 86), .ref (h 87), .int 0, .int 0, .int (-1), .int 0, .int (-1), .int (-1), .int 0])), ((h 8), .inr (0, [.ref (h 102), .ref (h 103), .int 0]))] := hD
  refine lv_iconst (v := 0) hx hb dX1_judge_10 (by decide) ?_
  refine lv_istore (lv' := [(4, .int 0), (0, .ref (h 46)), (1, .ref (h 1)), (2, .ref (h 8)), (3, .int n)]) hx hb dX1_judge_11 hl (by decide) rfl (fun ls hl => ?_)
  refine lv_iconst (v := 0) hx hb dX1_judge_13 (by decide) ?_
  refine lv_istore (lv' := [(5, .int 0), (4, .int 0), (0, .ref (h 46)), (1, .ref (h 1)), (2, .ref (h 8)), (3, .int n)]) hx hb dX1_judge_14 hl (by decide) rfl (fun ls hl => ?_)
  refine lv_iconst (v := 1) hx hb dX1_judge_16 (by decide) ?_
  refine lv_istore (lv' := [(6, .int 1), (5, .int 0), (4, .int 0), (0, .ref (h 46)), (1, .ref (h 1)), (2, .ref (h 8)), (3, .int n)]) hx hb dX1_judge_17 hl (by decide) rfl (fun ls hl => ?_)
  refine lv_iload hx hb dX1_judge_19 (lv_at hl 0 rfl) ?_
  refine lv_aload_n hx hb dX1_judge_21 rfl (lv_at hl 5 rfl) ?_
  refine va_get (D := D) (ci := 0) (v := .int 0) (C := RX0) (T := TX0) (N := 3) hx hb ht zinX0 hown hK hP 1 rfl rfl 2 (by decide) (ht _ zw_447) (fun _ h9 => h9) rfl dX1_judge_22 ?_
  refine lv_icmp_ge (tgt := 156) hx hb dX1_judge_25 (by decide) (fun c_1 => ?_) (fun c_1 => ?_)
  · skip
    refine lv_aload_n hx hb dX1_judge_156 rfl (lv_at hl 5 rfl) ?_
    refine va_get (D := D) (ci := 0) (v := .int 0) (C := RX0) (T := TX0) (N := 3) hx hb ht zinX0 hown hK hP 1 rfl rfl 2 (by decide) (ht _ zw_447) (fun _ h9 => h9) rfl dX1_judge_157 ?_
    refine lv_if_eq (tgt := 181) hx hb dX1_judge_160 (by decide) (fun c_2 => ?_) (fun c_2 => ?_)
    · skip
      refine lv_aload_n hx hb dX1_judge_181 rfl (lv_at hl 3 rfl) ?_
      refine lv_iconst (v := (-1)) hx hb dX1_judge_182 (by decide) ?_
      refine va_put (D := D) (ci := 1) (v := .int (-1)) (ty := .int) (C := RX1) (T := TX1) (N := 11) hx hb ht zinX1 tyX1 tyX1_ok nmX1 hown hK hP hD hS 0 rfl rfl 9 (by decide) (ht _ zw_269) (fun _ h9 => h9) rfl (by decide +kernel) rfl rfl (Nat.le_of_ble_eq_true rfl) dX1_judge_183 (fun H locs hP hD hS => ?_)
      have hP : va_P D vwCl [((h 46), .inr (1, [.ref (h 84), .ref (h 85), .ref (h 86), .ref (h 87), .int 0, .int 0, .int (-1), .int 0, .int (-1), .int (-1), .int 0])), ((h 8), .inr (0, [.ref (h 102), .ref (h 103), .int 0]))] H := hP
      have hD : va_D A [((h 46), .inr (1, [.ref (h 84), .ref (h 85), .ref (h 86), .ref (h 87), .int 0, .int 0, .int (-1), .int 0, .int (-1), .int (-1), .int 0])), ((h 8), .inr (0, [.ref (h 102), .ref (h 103), .int 0]))] := hD
      refine lv_goto (tgt := 212) hx hb dX1_judge_186 (by decide) ?_
      have hP9 := hP.sub (ws' := [((h 46), .inr (1, [.ref (h 84), .ref (h 85), .ref (h 86), .ref (h 87), .int 0, .int 0, .int (-1), .int 0, .int (-1), .int (-1), .int 0])), ((h 8), .inr (0, [.ref (h 102), .ref (h 103), .int 0]))]) [0, 1] rfl
      have hD9 := hD.sub (ws' := [((h 46), .inr (1, [.ref (h 84), .ref (h 85), .ref (h 86), .ref (h 87), .int 0, .int 0, .int (-1), .int 0, .int (-1), .int (-1), .int 0])), ((h 8), .inr (0, [.ref (h 102), .ref (h 103), .int 0]))]) [0, 1] (by decide) rfl
      have hK9 := hK.sub (tys' := []) [] rfl
      refine W.widen (k := 0) (n := 0) (Nat.le_of_ble_eq_true rfl) (Nat.le_of_ble_eq_true rfl) ?_
      exact W.vret hx hb hr (fun t ht0 hW => ⟨⟨(), rfl, trivial, (zE_of hP9 hK9 hD9 ht0 hW)⟩, hS.F ht0⟩) hS.2.2 dX1_judge_212
    · skip
      exact absurd c_2 (by decide)
  · skip
    exact absurd c_1 (by decide)
set_option maxHeartbeats 4000000 in
set_option maxRecDepth 100000 in
theorem k_X1_chainLaw (l : Launch) (D : va_G) (h cs : Nat → Nat) (k : Int32) : Met l yX1_chainLaw (.code yX1_chainLaw cX1_chainLaw 8 (some (.object "Chainwork$Law")) :: zT) ({ frames := 0, cells := 0, slots := 0, locals := 0 }) (va_Pc [.ref (h 46), .ref (h 8), .int k] (zR D [((h 46), .inr (1, [.ref (h 84), .ref (h 85), .ref (h 86), .ref (h 87), .int 0, .int 0, .int (-1), .int 0, .int (-1), .int (-1), .int 0])), ((h 8), .inr (0, [.ref (h 102), .ref (h 103), .int 0]))] [])) (va_Sq (fun r => r = none)) 0 0 (fun _ => False) := by
  refine Met.ofW (cc := cX1_chainLaw) (maxL := 8) (ret := (some (.object "Chainwork$Law"))) (by decide) rfl ?_
  intro p e s m args below meth c s₁ B hml hv
  obtain ⟨rfl, hP, hK⟩ := hv
  have hx := B.exec
  have hb := B.bytes
  have hr := B.returns
  have hts := atoms_spec (ws := (.code yX1_chainLaw cX1_chainLaw 8 (some (.object "Chainwork$Law")) :: zT)) B.pre
  have ht : ∀ w ∈ zT, w.before _ s = true := fun w h => hts w (List.mem_cons_of_mem _ h)
  have hown : s.vm.findClass RX1 = some m.cls := findClass_of_methodNamed B.named
  have hlocks := B.notSynchronized
  have hl := lv_entry ([.ref (h 46), .ref (h 8), .int k]) (n := 8) (Nat.le_of_ble_eq_true rfl)
  rw [lg_entry_eq]
  generalize (lg_sl ([.ref (h 46), .ref (h 8), .int k]) ++ List.replicate (8 - (lg_sl ([.ref (h 46), .ref (h 8), .int k])).length) Slot.unset).toArray = ls at hl ⊢
  have hl : lv_has ls 8 [(0, .ref (h 46)), (1, .ref (h 8)), (2, .int k)] := hl
  skip
  refine lv_aload_n hx hb dX1_chainLaw_0 rfl (lv_at hl 1 rfl) ?_
  refine va_get (D := D) (ci := 0) (v := .int 0) (C := RX0) (T := TX0) (N := 3) hx hb ht zinX0 hown hK hP 1 rfl rfl 2 (by decide) (ht _ zw_447) (fun _ h9 => h9) rfl dX1_chainLaw_1 ?_
  refine lv_if_eq (tgt := 15) hx hb dX1_chainLaw_4 (by decide) (fun c_1 => ?_) (fun c_1 => ?_)
  · skip
    refine lv_null hx hb dX1_chainLaw_15 ?_
    refine W.widen (k := 0) (n := 0) (Nat.le_of_ble_eq_true rfl) (Nat.le_of_ble_eq_true rfl) ?_
    exact W.aret (v := .null) hx hb hr (.inl ⟨_, rfl⟩) (.inl rfl) (fun t ht hW => ⟨none, rfl, rfl, ht⟩) (fun q h => nomatch h) dX1_chainLaw_16
  · skip
    exact absurd c_1 (by decide)
set_option maxHeartbeats 4000000 in
set_option maxRecDepth 100000 in
theorem k_X11_provedBy (l : Launch) (hl0 : l.stackTraces = false) (sz : Nat) (D : va_G) (h cs : Nat → Nat) (k : Int32) : vx_Met l yX11_provedBy (.code yX11_provedBy cX11_provedBy 4 (some (.object "Chainwork$Law")) :: zT) ({ frames := 6, cells := 1, slots := 6, locals := 90 }) (va_Pc [.ref (h 0), .ref (h 8), .int k] (zW D [((h 0), .inr (11, [.ref (h 1), .ref (h 9), .int 0, .int 0, .ref (h 20), .ref (h 37), .int 0, .ref (h 38), .ref (h 42), .ref (h 43), .ref (h 44), .ref (h 45), .ref (h 46), .ref (h 47), .ref (h 48)])), ((h 46), .inr (1, [.ref (h 84), .ref (h 85), .ref (h 86), .ref (h 87), .int 0, .int 0, .int (-1), .int 0, .int (-1), .int (-1), .int 0])), ((h 8), .inr (0, [.ref (h 102), .ref (h 103), .int 0]))] [] sz)) (va_Qq (fun (_ : Option Nat) (_ : Unit) => False) (fun _ t => zE D [] [] (va_A [((h 0), .inr (11, [.ref (h 1), .ref (h 9), .int 0, .int 0, .ref (h 20), .ref (h 37), .int 0, .ref (h 38), .ref (h 42), .ref (h 43), .ref (h 44), .ref (h 45), .ref (h 46), .ref (h 47), .ref (h 48)])), ((h 46), .inr (1, [.ref (h 84), .ref (h 85), .ref (h 86), .ref (h 87), .int 0, .int 0, .int (-1), .int 0, .int (-1), .int (-1), .int 0])), ((h 8), .inr (0, [.ref (h 102), .ref (h 103), .int 0]))] sz) t) (va_A [((h 0), .inr (11, [.ref (h 1), .ref (h 9), .int 0, .int 0, .ref (h 20), .ref (h 37), .int 0, .ref (h 38), .ref (h 42), .ref (h 43), .ref (h 44), .ref (h 45), .ref (h 46), .ref (h 47), .ref (h 48)])), ((h 46), .inr (1, [.ref (h 84), .ref (h 85), .ref (h 86), .ref (h 87), .int 0, .int 0, .int (-1), .int 0, .int (-1), .int (-1), .int 0])), ((h 8), .inr (0, [.ref (h 102), .ref (h 103), .int 0]))] sz)) (vx_X (fun _ : Unit => True) (fun E _ _ => E = "java/lang/IllegalStateException" ∧ True) (va_A [((h 0), .inr (11, [.ref (h 1), .ref (h 9), .int 0, .int 0, .ref (h 20), .ref (h 37), .int 0, .ref (h 38), .ref (h 42), .ref (h 43), .ref (h 44), .ref (h 45), .ref (h 46), .ref (h 47), .ref (h 48)])), ((h 46), .inr (1, [.ref (h 84), .ref (h 85), .ref (h 86), .ref (h 87), .int 0, .int 0, .int (-1), .int 0, .int (-1), .int (-1), .int 0])), ((h 8), .inr (0, [.ref (h 102), .ref (h 103), .int 0]))] sz)) 1 6 (va_A [((h 0), .inr (11, [.ref (h 1), .ref (h 9), .int 0, .int 0, .ref (h 20), .ref (h 37), .int 0, .ref (h 38), .ref (h 42), .ref (h 43), .ref (h 44), .ref (h 45), .ref (h 46), .ref (h 47), .ref (h 48)])), ((h 46), .inr (1, [.ref (h 84), .ref (h 85), .ref (h 86), .ref (h 87), .int 0, .int 0, .int (-1), .int 0, .int (-1), .int (-1), .int 0])), ((h 8), .inr (0, [.ref (h 102), .ref (h 103), .int 0]))] sz) := by
  refine vx_ofW (cc := cX11_provedBy) (maxL := 4) (ret := (some (.object "Chainwork$Law"))) (by decide) rfl ?_
  intro p e s m args below meth c s₁ B hml hexc hv
  obtain ⟨rfl, hEx, hsz, hP, hK, hD0⟩ := hv
  have hx := B.exec
  have hb := B.bytes
  have hr := B.returns
  have hts := atoms_spec (ws := (.code yX11_provedBy cX11_provedBy 4 (some (.object "Chainwork$Law")) :: zT)) B.pre
  have ht : ∀ w ∈ zT, w.before _ s = true := fun w h => hts w (List.mem_cons_of_mem _ h)
  have hown : s.vm.findClass RX11 = some m.cls := findClass_of_methodNamed B.named
  have hlocks := B.notSynchronized
  subst hsz
  have hD := hD0.self (sz := s.heap.size)
  generalize hAe : va_A [((h 0), .inr (11, [.ref (h 1), .ref (h 9), .int 0, .int 0, .ref (h 20), .ref (h 37), .int 0, .ref (h 38), .ref (h 42), .ref (h 43), .ref (h 44), .ref (h 45), .ref (h 46), .ref (h 47), .ref (h 48)])), ((h 46), .inr (1, [.ref (h 84), .ref (h 85), .ref (h 86), .ref (h 87), .int 0, .int 0, .int (-1), .int 0, .int (-1), .int (-1), .int 0])), ((h 8), .inr (0, [.ref (h 102), .ref (h 103), .int 0]))] s.heap.size = A at hD hEx ⊢
  have hA : ∀ q : Nat, s.heap.size ≤ q → A q := fun q h => by rw [← hAe]; exact Or.inr h
  have hS : va_S A s.heap s.heap [] := va_S.rf
  have hP : va_P D vwCl [((h 0), .inr (11, [.ref (h 1), .ref (h 9), .int 0, .int 0, .ref (h 20), .ref (h 37), .int 0, .ref (h 38), .ref (h 42), .ref (h 43), .ref (h 44), .ref (h 45), .ref (h 46), .ref (h 47), .ref (h 48)])), ((h 46), .inr (1, [.ref (h 84), .ref (h 85), .ref (h 86), .ref (h 87), .int 0, .int 0, .int (-1), .int 0, .int (-1), .int (-1), .int 0])), ((h 8), .inr (0, [.ref (h 102), .ref (h 103), .int 0]))] s.heap := hP
  have hl := lv_entry ([.ref (h 0), .ref (h 8), .int k]) (n := 4) (Nat.le_of_ble_eq_true rfl)
  rw [lg_entry_eq]
  generalize (lg_sl ([.ref (h 0), .ref (h 8), .int k]) ++ List.replicate (4 - (lg_sl ([.ref (h 0), .ref (h 8), .int k])).length) Slot.unset).toArray = ls at hl ⊢
  have hl : lv_has ls 4 [(0, .ref (h 0)), (1, .ref (h 8)), (2, .int k)] := hl
  skip
  refine lv_aload_n hx hb dX11_provedBy_0 rfl (lv_at hl 0 rfl) ?_
  refine va_get (D := D) (ci := 11) (v := .ref (h 46)) (C := RX11) (T := TX11) (N := 15) hx hb ht zinX11 hown hK hP 0 rfl rfl 12 (by decide) (ht _ zw_378) (fun _ h9 => h9) rfl dX11_provedBy_1 ?_
  refine lv_aload_n hx hb dX11_provedBy_4 rfl (lv_at hl 1 rfl) ?_
  refine lv_iload_n hx hb dX11_provedBy_5 rfl (lv_at hl 2 rfl) ?_
  refine va_csq (va_runV (As := [.ref (h 8), .int k]) (rest := []) ⟨hx, hb, hml, hown, ht⟩ (k_X1_chainLaw l D h cs k) (cwV 2 ht (zG_V zw_448 zw_449 zw_450 zw_375 zw_451) rfl rfl rfl (by decide +kernel) ⟨Nat.le_of_ble_eq_true rfl, Nat.le_of_ble_eq_true rfl⟩) (zR_V (va_recv hK hP (ci := 1) (q0 := 1) rfl rfl) (hP.sub (ws' := [((h 46), .inr (1, [.ref (h 84), .ref (h 85), .ref (h 86), .ref (h 87), .int 0, .int 0, .int (-1), .int 0, .int (-1), .int (-1), .int 0])), ((h 8), .inr (0, [.ref (h 102), .ref (h 103), .int 0]))]) [1, 2] rfl) hK) rfl rfl hl.1 rfl (lv_room (Nat.le_of_ble_eq_true rfl)) dX11_provedBy_6 ⟨Nat.le_of_ble_eq_true rfl, Nat.le_of_ble_eq_true rfl⟩).run (fun r_1 hw_1 => ?_)
  obtain rfl := hw_1
  refine W.eq (g2 := F0 m 9 ls (.null :: [])) rfl ?_
  refine lv_astore_nN (lv' := [(3, .null), (0, .ref (h 0)), (1, .ref (h 8)), (2, .int k)]) hx hb dX11_provedBy_9 rfl hl (by decide) rfl (fun ls hl => ?_)
  refine lv_aload_nN hx hb dX11_provedBy_10 rfl (lv_at hl 0 rfl) ?_
  refine lv_ifnonnullN hx hb dX11_provedBy_11 ?_
  exact zthrow (k := 3) (names := ["java/lang/RuntimeException", "java/lang/Exception"]) (ix := 7) (rx := zSix) (text := "the chain proves nothing") (is := 514) hx hb hl0 (by decide) (by decide) (by decide +kernel) (by decide +kernel) (by decide +kernel) (by decide +kernel) zw_392 zw_393 zAt_ISE zOt_ISE (by decide +kernel) (by decide +kernel) hown ht hEx hS (hl.1.trans hml.symm) dX11_provedBy_14 dX11_provedBy_17 (.inr ⟨dX11_provedBy_18, rfl⟩) dX11_provedBy_21 dX11_provedBy_24 hexc (Nat.le_of_ble_eq_true rfl) (Nat.le_of_ble_eq_true rfl) (Nat.le_of_ble_eq_true rfl) (Nat.le_of_ble_eq_true rfl) hlocks (fun t hvm hF => ⟨(), trivial, ⟨rfl, trivial⟩, hF⟩) hS.2.2 (Nat.le_of_ble_eq_true rfl) (Nat.le_of_ble_eq_true rfl)
set_option maxHeartbeats 4000000 in
set_option maxRecDepth 100000 in
theorem k_X0_countNames (l : Launch) (D : va_G) (h cs : Nat → Nat) : Met l yX0_countNames (.code yX0_countNames cX0_countNames 5 (some .int) :: zT) ({ frames := 0, cells := 0, slots := 0, locals := 0 }) (va_Pc [.ref (h 8)] (zR D [((h 8), .inr (0, [.ref (h 102), .ref (h 103), .int 0]))] [])) (vp_Si (fun r => r = 0)) 0 0 (fun _ => False) := by
  refine Met.ofW (cc := cX0_countNames) (maxL := 5) (ret := (some .int)) (by decide) rfl ?_
  intro p e s m args below meth c s₁ B hml hv
  obtain ⟨rfl, hP, hK⟩ := hv
  have hx := B.exec
  have hb := B.bytes
  have hr := B.returns
  have hts := atoms_spec (ws := (.code yX0_countNames cX0_countNames 5 (some .int) :: zT)) B.pre
  have ht : ∀ w ∈ zT, w.before _ s = true := fun w h => hts w (List.mem_cons_of_mem _ h)
  have hown : s.vm.findClass RX0 = some m.cls := findClass_of_methodNamed B.named
  have hlocks := B.notSynchronized
  have hl := lv_entry ([.ref (h 8)]) (n := 5) (Nat.le_of_ble_eq_true rfl)
  rw [lg_entry_eq]
  generalize (lg_sl ([.ref (h 8)]) ++ List.replicate (5 - (lg_sl ([.ref (h 8)])).length) Slot.unset).toArray = ls at hl ⊢
  have hl : lv_has ls 5 [(0, .ref (h 8))] := hl
  skip
  refine lv_iconst (v := 0) hx hb dX0_countNames_0 (by decide) ?_
  refine lv_istore_n (lv' := [(1, .int 0), (0, .ref (h 8))]) hx hb dX0_countNames_1 rfl hl (by decide) rfl (fun ls hl => ?_)
  refine lv_iconst (v := 1) hx hb dX0_countNames_2 (by decide) ?_
  refine lv_istore_n (lv' := [(2, .int 1), (1, .int 0), (0, .ref (h 8))]) hx hb dX0_countNames_3 rfl hl (by decide) rfl (fun ls hl => ?_)
  refine lv_iload_n hx hb dX0_countNames_4 rfl (lv_at hl 0 rfl) ?_
  refine lv_aload_n hx hb dX0_countNames_5 rfl (lv_at hl 2 rfl) ?_
  refine va_get (D := D) (ci := 0) (v := .int 0) (C := RX0) (T := TX0) (N := 3) hx hb ht zinX0 hown hK hP 0 rfl rfl 2 (by decide) (ht _ zw_167) (fun _ h9 => h9) rfl dX0_countNames_6 ?_
  refine lv_icmp_ge (tgt := 73) hx hb dX0_countNames_9 (by decide) (fun c_1 => ?_) (fun c_1 => ?_)
  · skip
    refine lv_iload_n hx hb dX0_countNames_73 rfl (lv_at hl 1 rfl) ?_
    refine W.widen (k := 0) (n := 0) (Nat.le_of_ble_eq_true rfl) (Nat.le_of_ble_eq_true rfl) ?_
    exact W.iret (v := 0) hx hb hr (fun t ht hW => ⟨0, rfl, rfl, ht⟩) (fun q h => nomatch h) dX0_countNames_74
  · skip
    exact absurd c_1 (by decide)
set_option maxHeartbeats 4000000 in
set_option maxRecDepth 100000 in
theorem k_X11_lines (l : Launch) (hl0 : l.stackTraces = false) (sz : Nat) (D : va_G) (h cs : Nat → Nat) (p0 : Int32) (fn : Nat → Option Nat) (hn : ∀ k : Nat, k < 4 → fn k = some (h 8)) : vx_Met l yX11_lines (.code yX11_lines cX11_lines 2 (some .int) :: zT) ({ frames := 7, cells := 1, slots := 6, locals := 111 }) (va_Pc [.ref (h 0), .int p0] (zW D [((h 0), .inr (11, [.ref (h 1), .ref (h 9), .int 0, .int 0, .ref (h 20), .ref (h 37), .int 0, .ref (h 38), .ref (h 42), .ref (h 43), .ref (h 44), .ref (h 45), .ref (h 46), .ref (h 47), .ref (h 48)])), ((h 1), .inr (8, [.ref (h 2), .int 0, .ref (h 3), .ref (h 4), .int 0, .ref (h 5), .int 0, .ref (h 6), .int 0, .ref (h 7), .int 0])), ((h 7), .inl ((cs 0), 4, .inr (.inr (.inr (.inr fn))))), ((h 8), .inr (0, [.ref (h 102), .ref (h 103), .int 0]))] [((cs 0), .object RX0)] sz)) (va_Qi (fun (r : Int32) (_ : Unit) => zS_lines p0 0 r) (fun _ t => zE D [] [] (va_A [((h 0), .inr (11, [.ref (h 1), .ref (h 9), .int 0, .int 0, .ref (h 20), .ref (h 37), .int 0, .ref (h 38), .ref (h 42), .ref (h 43), .ref (h 44), .ref (h 45), .ref (h 46), .ref (h 47), .ref (h 48)])), ((h 1), .inr (8, [.ref (h 2), .int 0, .ref (h 3), .ref (h 4), .int 0, .ref (h 5), .int 0, .ref (h 6), .int 0, .ref (h 7), .int 0])), ((h 7), .inl ((cs 0), 4, .inr (.inr (.inr (.inr fn))))), ((h 8), .inr (0, [.ref (h 102), .ref (h 103), .int 0]))] sz) t) (va_A [((h 0), .inr (11, [.ref (h 1), .ref (h 9), .int 0, .int 0, .ref (h 20), .ref (h 37), .int 0, .ref (h 38), .ref (h 42), .ref (h 43), .ref (h 44), .ref (h 45), .ref (h 46), .ref (h 47), .ref (h 48)])), ((h 1), .inr (8, [.ref (h 2), .int 0, .ref (h 3), .ref (h 4), .int 0, .ref (h 5), .int 0, .ref (h 6), .int 0, .ref (h 7), .int 0])), ((h 7), .inl ((cs 0), 4, .inr (.inr (.inr (.inr fn))))), ((h 8), .inr (0, [.ref (h 102), .ref (h 103), .int 0]))] sz)) (vx_X (fun _ : Unit => True) (fun E _ _ => (E = "java/lang/IndexOutOfBoundsException" ∧ zS_lines p0 1 0)) (va_A [((h 0), .inr (11, [.ref (h 1), .ref (h 9), .int 0, .int 0, .ref (h 20), .ref (h 37), .int 0, .ref (h 38), .ref (h 42), .ref (h 43), .ref (h 44), .ref (h 45), .ref (h 46), .ref (h 47), .ref (h 48)])), ((h 1), .inr (8, [.ref (h 2), .int 0, .ref (h 3), .ref (h 4), .int 0, .ref (h 5), .int 0, .ref (h 6), .int 0, .ref (h 7), .int 0])), ((h 7), .inl ((cs 0), 4, .inr (.inr (.inr (.inr fn))))), ((h 8), .inr (0, [.ref (h 102), .ref (h 103), .int 0]))] sz)) 1 6 (va_A [((h 0), .inr (11, [.ref (h 1), .ref (h 9), .int 0, .int 0, .ref (h 20), .ref (h 37), .int 0, .ref (h 38), .ref (h 42), .ref (h 43), .ref (h 44), .ref (h 45), .ref (h 46), .ref (h 47), .ref (h 48)])), ((h 1), .inr (8, [.ref (h 2), .int 0, .ref (h 3), .ref (h 4), .int 0, .ref (h 5), .int 0, .ref (h 6), .int 0, .ref (h 7), .int 0])), ((h 7), .inl ((cs 0), 4, .inr (.inr (.inr (.inr fn))))), ((h 8), .inr (0, [.ref (h 102), .ref (h 103), .int 0]))] sz) := by
  refine vx_ofW (cc := cX11_lines) (maxL := 2) (ret := (some .int)) (by decide) rfl ?_
  intro p e s m args below meth c s₁ B hml hexc hv
  obtain ⟨rfl, hEx, hsz, hP, hK, hD0⟩ := hv
  have hx := B.exec
  have hb := B.bytes
  have hr := B.returns
  have hts := atoms_spec (ws := (.code yX11_lines cX11_lines 2 (some .int) :: zT)) B.pre
  have ht : ∀ w ∈ zT, w.before _ s = true := fun w h => hts w (List.mem_cons_of_mem _ h)
  have hown : s.vm.findClass RX11 = some m.cls := findClass_of_methodNamed B.named
  have hlocks := B.notSynchronized
  subst hsz
  have hD := hD0.self (sz := s.heap.size)
  generalize hAe : va_A [((h 0), .inr (11, [.ref (h 1), .ref (h 9), .int 0, .int 0, .ref (h 20), .ref (h 37), .int 0, .ref (h 38), .ref (h 42), .ref (h 43), .ref (h 44), .ref (h 45), .ref (h 46), .ref (h 47), .ref (h 48)])), ((h 1), .inr (8, [.ref (h 2), .int 0, .ref (h 3), .ref (h 4), .int 0, .ref (h 5), .int 0, .ref (h 6), .int 0, .ref (h 7), .int 0])), ((h 7), .inl ((cs 0), 4, .inr (.inr (.inr (.inr fn))))), ((h 8), .inr (0, [.ref (h 102), .ref (h 103), .int 0]))] s.heap.size = A at hD hEx ⊢
  have hA : ∀ q : Nat, s.heap.size ≤ q → A q := fun q h => by rw [← hAe]; exact Or.inr h
  have hS : va_S A s.heap s.heap [] := va_S.rf
  have hP : va_P D vwCl [((h 0), .inr (11, [.ref (h 1), .ref (h 9), .int 0, .int 0, .ref (h 20), .ref (h 37), .int 0, .ref (h 38), .ref (h 42), .ref (h 43), .ref (h 44), .ref (h 45), .ref (h 46), .ref (h 47), .ref (h 48)])), ((h 1), .inr (8, [.ref (h 2), .int 0, .ref (h 3), .ref (h 4), .int 0, .ref (h 5), .int 0, .ref (h 6), .int 0, .ref (h 7), .int 0])), ((h 7), .inl ((cs 0), 4, .inr (.inr (.inr (.inr fn))))), ((h 8), .inr (0, [.ref (h 102), .ref (h 103), .int 0]))] s.heap := hP
  have hl := lv_entry ([.ref (h 0), .int p0]) (n := 2) (Nat.le_of_ble_eq_true rfl)
  rw [lg_entry_eq]
  generalize (lg_sl ([.ref (h 0), .int p0]) ++ List.replicate (2 - (lg_sl ([.ref (h 0), .int p0])).length) Slot.unset).toArray = ls at hl ⊢
  have hl : lv_has ls 2 [(0, .ref (h 0)), (1, .int p0)] := hl
  skip
  refine lv_iload_n hx hb dX11_lines_0 rfl (lv_at hl 1 rfl) ?_
  refine lv_iconst (v := 4) hx hb dX11_lines_1 (by decide) ?_
  have hPc := hP.sub (ws' := []) [] rfl
  have hDc := hD.sub (ws' := []) [] (by decide) rfl
  have hKc := hK.sub (tys' := []) [] rfl
  have hFc := va_free (wc := []) hD hS hA [] rfl
  refine vx_callv (vx_runS (As := [.int p0, .int 4]) (rest := []) ⟨hx, hb, hml, hown, ht⟩ (k_X11_checkIndex l hl0 _ D p0 4) (va_cwS 2 ht (zG_S zw_402 zw_403 zw_404 zw_405) rfl rfl rfl (by decide +kernel) ⟨Nat.le_of_ble_eq_true rfl, Nat.le_of_ble_eq_true rfl⟩) (zW_S hEx hS hFc hPc hKc hDc) rfl rfl hl.1 rfl (lv_room (Nat.le_of_ble_eq_true rfl)) dX11_lines_2 ⟨Nat.le_of_ble_eq_true rfl, Nat.le_of_ble_eq_true rfl⟩) hS (fun q _ h => hFc q h) hFc (fun q _ h => hFc q h) (fun E ce q9 uu t H1 locs1 ht0 hvm hpx hB hz1 hk1 hS hcell hv hcl => ?_) (fun u_1 t H1 locs ht0 hvm hw_1 hB hz1 hk1 hS => ?_)
  · exact vx_out (fun x hx => (hexc x hx).elim) hlocks hcell hv hcl (fun t2 h2 hv2 => ⟨(), trivial, (by obtain ⟨hE, hb9⟩ := hB; (try simp only [Int32.reduceToInt] at hb9); exact ⟨hE, (show zS_lines p0 1 0 from (.inl ⟨rfl, by omega⟩))⟩), hS.F h2⟩) hS.2.2 (Nat.le_of_ble_eq_true rfl) (Nat.le_of_ble_eq_true rfl)
  obtain ⟨hP1, hK1, hD1⟩ := hB
  rw [ht0] at hP1
  have hK1 := va_K.moved hvm.symm hK1
  obtain ⟨hP, hD⟩ := va_join (wr := [((h 0), .inr (11, [.ref (h 1), .ref (h 9), .int 0, .int 0, .ref (h 20), .ref (h 37), .int 0, .ref (h 38), .ref (h 42), .ref (h 43), .ref (h 44), .ref (h 45), .ref (h 46), .ref (h 47), .ref (h 48)])), ((h 1), .inr (8, [.ref (h 2), .int 0, .ref (h 3), .ref (h 4), .int 0, .ref (h 5), .int 0, .ref (h 6), .int 0, .ref (h 7), .int 0])), ((h 7), .inl ((cs 0), 4, .inr (.inr (.inr (.inr fn))))), ((h 8), .inr (0, [.ref (h 102), .ref (h 103), .int 0]))]) (w1 := []) hP hD [] [0, 1, 2, 3] rfl rfl (by decide) (by decide) hk1 hFc hP1 hD1
  generalize H1 = H at hP hS ⊢
  have hP : va_P D vwCl [((h 0), .inr (11, [.ref (h 1), .ref (h 9), .int 0, .int 0, .ref (h 20), .ref (h 37), .int 0, .ref (h 38), .ref (h 42), .ref (h 43), .ref (h 44), .ref (h 45), .ref (h 46), .ref (h 47), .ref (h 48)])), ((h 1), .inr (8, [.ref (h 2), .int 0, .ref (h 3), .ref (h 4), .int 0, .ref (h 5), .int 0, .ref (h 6), .int 0, .ref (h 7), .int 0])), ((h 7), .inl ((cs 0), 4, .inr (.inr (.inr (.inr fn))))), ((h 8), .inr (0, [.ref (h 102), .ref (h 103), .int 0]))] H := hP
  have hD : va_D A [((h 0), .inr (11, [.ref (h 1), .ref (h 9), .int 0, .int 0, .ref (h 20), .ref (h 37), .int 0, .ref (h 38), .ref (h 42), .ref (h 43), .ref (h 44), .ref (h 45), .ref (h 46), .ref (h 47), .ref (h 48)])), ((h 1), .inr (8, [.ref (h 2), .int 0, .ref (h 3), .ref (h 4), .int 0, .ref (h 5), .int 0, .ref (h 6), .int 0, .ref (h 7), .int 0])), ((h 7), .inl ((cs 0), 4, .inr (.inr (.inr (.inr fn))))), ((h 8), .inr (0, [.ref (h 102), .ref (h 103), .int 0]))] := hD
  refine W.widen (k := 1) (n := 6) (Nat.le_of_ble_eq_true rfl) (Nat.le_of_ble_eq_true rfl) ?_
  simp only [Int32.reduceToInt] at hw_1
  refine lv_aload_n hx hb dX11_lines_5 rfl (lv_at hl 0 rfl) ?_
  refine va_get (D := D) (ci := 11) (v := .ref (h 1)) (C := RX11) (T := TX11) (N := 15) hx hb ht zinX11 hown hK hP 0 rfl rfl 0 (by decide) (ht _ zw_353) (fun _ h9 => h9) rfl dX11_lines_6 ?_
  refine va_get (D := D) (ci := 8) (v := .ref (h 7)) (C := RX8) (T := TX8) (N := 11) hx hb ht zinX8 hown hK hP 1 rfl rfl 9 (by decide) (ht _ zw_452) (fun _ h9 => h9) rfl dX11_lines_9 ?_
  refine lv_iload_n hx hb dX11_lines_12 rfl (lv_at hl 1 rfl) ?_
  refine va_aldq hx hb hK hP 2 0 rfl rfl (vp_in_iff.mpr ⟨hw_1.1, by have hq := hw_1.2; omega⟩) dX11_lines_13 ?_
  refine W.eq (g2 := F0 m 14 ls (.ref (h 8) :: [])) (by show F0 m _ ls (va_rf (fn p0.toNatClampNeg) :: _) = _; rw [hn _ (by exact zcl4 (by omega) (by omega))]; rfl) ?_
  refine va_get (D := D) (ci := 0) (v := .int 0) (C := RX0) (T := TX0) (N := 3) hx hb ht zinX0 hown hK hP 3 rfl rfl 2 (by decide) (ht _ zw_453) (fun _ h9 => h9) rfl dX11_lines_14 ?_
  have hP9 := hP.sub (ws' := []) [] rfl
  have hD9 := hD.sub (ws' := []) [] (by decide) rfl
  have hK9 := hK.sub (tys' := []) [] rfl
  refine W.widen (k := 1) (n := 6) (Nat.le_of_ble_eq_true rfl) (Nat.le_of_ble_eq_true rfl) ?_
  refine vx_ret ?_
  exact W.iret (v := 0) hx hb hr (fun t ht0 hW => ⟨⟨0, (), rfl, (show zS_lines p0 0 0 from (.inr ⟨rfl, by omega, rfl⟩)), (zE_of hP9 hK9 hD9 ht0 hW)⟩, hS.F ht0⟩) hS.2.2 dX11_lines_17
set_option maxHeartbeats 4000000 in
set_option maxRecDepth 100000 in
theorem k_X11_needs (l : Launch) (hl0 : l.stackTraces = false) (sz : Nat) (D : va_G) (h cs : Nat → Nat) (p0 : Int32) (fn : Nat → Option Nat) (hn : ∀ k : Nat, k < 4 → fn k = some (h 8)) : vx_Met l yX11_needs (.code yX11_needs cX11_needs 2 (some .int) :: zT) ({ frames := 7, cells := 1, slots := 6, locals := 111 }) (va_Pc [.ref (h 0), .int p0] (zW D [((h 0), .inr (11, [.ref (h 1), .ref (h 9), .int 0, .int 0, .ref (h 20), .ref (h 37), .int 0, .ref (h 38), .ref (h 42), .ref (h 43), .ref (h 44), .ref (h 45), .ref (h 46), .ref (h 47), .ref (h 48)])), ((h 1), .inr (8, [.ref (h 2), .int 0, .ref (h 3), .ref (h 4), .int 0, .ref (h 5), .int 0, .ref (h 6), .int 0, .ref (h 7), .int 0])), ((h 7), .inl ((cs 0), 4, .inr (.inr (.inr (.inr fn))))), ((h 8), .inr (0, [.ref (h 102), .ref (h 103), .int 0]))] [((cs 0), .object RX0)] sz)) (va_Qi (fun (r : Int32) (_ : Unit) => zS_needs p0 0 r) (fun _ t => zE D [] [] (va_A [((h 0), .inr (11, [.ref (h 1), .ref (h 9), .int 0, .int 0, .ref (h 20), .ref (h 37), .int 0, .ref (h 38), .ref (h 42), .ref (h 43), .ref (h 44), .ref (h 45), .ref (h 46), .ref (h 47), .ref (h 48)])), ((h 1), .inr (8, [.ref (h 2), .int 0, .ref (h 3), .ref (h 4), .int 0, .ref (h 5), .int 0, .ref (h 6), .int 0, .ref (h 7), .int 0])), ((h 7), .inl ((cs 0), 4, .inr (.inr (.inr (.inr fn))))), ((h 8), .inr (0, [.ref (h 102), .ref (h 103), .int 0]))] sz) t) (va_A [((h 0), .inr (11, [.ref (h 1), .ref (h 9), .int 0, .int 0, .ref (h 20), .ref (h 37), .int 0, .ref (h 38), .ref (h 42), .ref (h 43), .ref (h 44), .ref (h 45), .ref (h 46), .ref (h 47), .ref (h 48)])), ((h 1), .inr (8, [.ref (h 2), .int 0, .ref (h 3), .ref (h 4), .int 0, .ref (h 5), .int 0, .ref (h 6), .int 0, .ref (h 7), .int 0])), ((h 7), .inl ((cs 0), 4, .inr (.inr (.inr (.inr fn))))), ((h 8), .inr (0, [.ref (h 102), .ref (h 103), .int 0]))] sz)) (vx_X (fun _ : Unit => True) (fun E _ _ => (E = "java/lang/IndexOutOfBoundsException" ∧ zS_needs p0 1 0)) (va_A [((h 0), .inr (11, [.ref (h 1), .ref (h 9), .int 0, .int 0, .ref (h 20), .ref (h 37), .int 0, .ref (h 38), .ref (h 42), .ref (h 43), .ref (h 44), .ref (h 45), .ref (h 46), .ref (h 47), .ref (h 48)])), ((h 1), .inr (8, [.ref (h 2), .int 0, .ref (h 3), .ref (h 4), .int 0, .ref (h 5), .int 0, .ref (h 6), .int 0, .ref (h 7), .int 0])), ((h 7), .inl ((cs 0), 4, .inr (.inr (.inr (.inr fn))))), ((h 8), .inr (0, [.ref (h 102), .ref (h 103), .int 0]))] sz)) 1 6 (va_A [((h 0), .inr (11, [.ref (h 1), .ref (h 9), .int 0, .int 0, .ref (h 20), .ref (h 37), .int 0, .ref (h 38), .ref (h 42), .ref (h 43), .ref (h 44), .ref (h 45), .ref (h 46), .ref (h 47), .ref (h 48)])), ((h 1), .inr (8, [.ref (h 2), .int 0, .ref (h 3), .ref (h 4), .int 0, .ref (h 5), .int 0, .ref (h 6), .int 0, .ref (h 7), .int 0])), ((h 7), .inl ((cs 0), 4, .inr (.inr (.inr (.inr fn))))), ((h 8), .inr (0, [.ref (h 102), .ref (h 103), .int 0]))] sz) := by
  refine vx_ofW (cc := cX11_needs) (maxL := 2) (ret := (some .int)) (by decide) rfl ?_
  intro p e s m args below meth c s₁ B hml hexc hv
  obtain ⟨rfl, hEx, hsz, hP, hK, hD0⟩ := hv
  have hx := B.exec
  have hb := B.bytes
  have hr := B.returns
  have hts := atoms_spec (ws := (.code yX11_needs cX11_needs 2 (some .int) :: zT)) B.pre
  have ht : ∀ w ∈ zT, w.before _ s = true := fun w h => hts w (List.mem_cons_of_mem _ h)
  have hown : s.vm.findClass RX11 = some m.cls := findClass_of_methodNamed B.named
  have hlocks := B.notSynchronized
  subst hsz
  have hD := hD0.self (sz := s.heap.size)
  generalize hAe : va_A [((h 0), .inr (11, [.ref (h 1), .ref (h 9), .int 0, .int 0, .ref (h 20), .ref (h 37), .int 0, .ref (h 38), .ref (h 42), .ref (h 43), .ref (h 44), .ref (h 45), .ref (h 46), .ref (h 47), .ref (h 48)])), ((h 1), .inr (8, [.ref (h 2), .int 0, .ref (h 3), .ref (h 4), .int 0, .ref (h 5), .int 0, .ref (h 6), .int 0, .ref (h 7), .int 0])), ((h 7), .inl ((cs 0), 4, .inr (.inr (.inr (.inr fn))))), ((h 8), .inr (0, [.ref (h 102), .ref (h 103), .int 0]))] s.heap.size = A at hD hEx ⊢
  have hA : ∀ q : Nat, s.heap.size ≤ q → A q := fun q h => by rw [← hAe]; exact Or.inr h
  have hS : va_S A s.heap s.heap [] := va_S.rf
  have hP : va_P D vwCl [((h 0), .inr (11, [.ref (h 1), .ref (h 9), .int 0, .int 0, .ref (h 20), .ref (h 37), .int 0, .ref (h 38), .ref (h 42), .ref (h 43), .ref (h 44), .ref (h 45), .ref (h 46), .ref (h 47), .ref (h 48)])), ((h 1), .inr (8, [.ref (h 2), .int 0, .ref (h 3), .ref (h 4), .int 0, .ref (h 5), .int 0, .ref (h 6), .int 0, .ref (h 7), .int 0])), ((h 7), .inl ((cs 0), 4, .inr (.inr (.inr (.inr fn))))), ((h 8), .inr (0, [.ref (h 102), .ref (h 103), .int 0]))] s.heap := hP
  have hl := lv_entry ([.ref (h 0), .int p0]) (n := 2) (Nat.le_of_ble_eq_true rfl)
  rw [lg_entry_eq]
  generalize (lg_sl ([.ref (h 0), .int p0]) ++ List.replicate (2 - (lg_sl ([.ref (h 0), .int p0])).length) Slot.unset).toArray = ls at hl ⊢
  have hl : lv_has ls 2 [(0, .ref (h 0)), (1, .int p0)] := hl
  skip
  refine lv_iload_n hx hb dX11_needs_0 rfl (lv_at hl 1 rfl) ?_
  refine lv_iconst (v := 4) hx hb dX11_needs_1 (by decide) ?_
  have hPc := hP.sub (ws' := []) [] rfl
  have hDc := hD.sub (ws' := []) [] (by decide) rfl
  have hKc := hK.sub (tys' := []) [] rfl
  have hFc := va_free (wc := []) hD hS hA [] rfl
  refine vx_callv (vx_runS (As := [.int p0, .int 4]) (rest := []) ⟨hx, hb, hml, hown, ht⟩ (k_X11_checkIndex l hl0 _ D p0 4) (va_cwS 2 ht (zG_S zw_402 zw_403 zw_404 zw_405) rfl rfl rfl (by decide +kernel) ⟨Nat.le_of_ble_eq_true rfl, Nat.le_of_ble_eq_true rfl⟩) (zW_S hEx hS hFc hPc hKc hDc) rfl rfl hl.1 rfl (lv_room (Nat.le_of_ble_eq_true rfl)) dX11_needs_2 ⟨Nat.le_of_ble_eq_true rfl, Nat.le_of_ble_eq_true rfl⟩) hS (fun q _ h => hFc q h) hFc (fun q _ h => hFc q h) (fun E ce q9 uu t H1 locs1 ht0 hvm hpx hB hz1 hk1 hS hcell hv hcl => ?_) (fun u_1 t H1 locs ht0 hvm hw_1 hB hz1 hk1 hS => ?_)
  · exact vx_out (fun x hx => (hexc x hx).elim) hlocks hcell hv hcl (fun t2 h2 hv2 => ⟨(), trivial, (by obtain ⟨hE, hb9⟩ := hB; (try simp only [Int32.reduceToInt] at hb9); exact ⟨hE, (show zS_needs p0 1 0 from (.inl ⟨rfl, by omega⟩))⟩), hS.F h2⟩) hS.2.2 (Nat.le_of_ble_eq_true rfl) (Nat.le_of_ble_eq_true rfl)
  obtain ⟨hP1, hK1, hD1⟩ := hB
  rw [ht0] at hP1
  have hK1 := va_K.moved hvm.symm hK1
  obtain ⟨hP, hD⟩ := va_join (wr := [((h 0), .inr (11, [.ref (h 1), .ref (h 9), .int 0, .int 0, .ref (h 20), .ref (h 37), .int 0, .ref (h 38), .ref (h 42), .ref (h 43), .ref (h 44), .ref (h 45), .ref (h 46), .ref (h 47), .ref (h 48)])), ((h 1), .inr (8, [.ref (h 2), .int 0, .ref (h 3), .ref (h 4), .int 0, .ref (h 5), .int 0, .ref (h 6), .int 0, .ref (h 7), .int 0])), ((h 7), .inl ((cs 0), 4, .inr (.inr (.inr (.inr fn))))), ((h 8), .inr (0, [.ref (h 102), .ref (h 103), .int 0]))]) (w1 := []) hP hD [] [0, 1, 2, 3] rfl rfl (by decide) (by decide) hk1 hFc hP1 hD1
  generalize H1 = H at hP hS ⊢
  have hP : va_P D vwCl [((h 0), .inr (11, [.ref (h 1), .ref (h 9), .int 0, .int 0, .ref (h 20), .ref (h 37), .int 0, .ref (h 38), .ref (h 42), .ref (h 43), .ref (h 44), .ref (h 45), .ref (h 46), .ref (h 47), .ref (h 48)])), ((h 1), .inr (8, [.ref (h 2), .int 0, .ref (h 3), .ref (h 4), .int 0, .ref (h 5), .int 0, .ref (h 6), .int 0, .ref (h 7), .int 0])), ((h 7), .inl ((cs 0), 4, .inr (.inr (.inr (.inr fn))))), ((h 8), .inr (0, [.ref (h 102), .ref (h 103), .int 0]))] H := hP
  have hD : va_D A [((h 0), .inr (11, [.ref (h 1), .ref (h 9), .int 0, .int 0, .ref (h 20), .ref (h 37), .int 0, .ref (h 38), .ref (h 42), .ref (h 43), .ref (h 44), .ref (h 45), .ref (h 46), .ref (h 47), .ref (h 48)])), ((h 1), .inr (8, [.ref (h 2), .int 0, .ref (h 3), .ref (h 4), .int 0, .ref (h 5), .int 0, .ref (h 6), .int 0, .ref (h 7), .int 0])), ((h 7), .inl ((cs 0), 4, .inr (.inr (.inr (.inr fn))))), ((h 8), .inr (0, [.ref (h 102), .ref (h 103), .int 0]))] := hD
  refine W.widen (k := 1) (n := 6) (Nat.le_of_ble_eq_true rfl) (Nat.le_of_ble_eq_true rfl) ?_
  simp only [Int32.reduceToInt] at hw_1
  refine lv_aload_n hx hb dX11_needs_5 rfl (lv_at hl 0 rfl) ?_
  refine va_get (D := D) (ci := 11) (v := .ref (h 1)) (C := RX11) (T := TX11) (N := 15) hx hb ht zinX11 hown hK hP 0 rfl rfl 0 (by decide) (ht _ zw_353) (fun _ h9 => h9) rfl dX11_needs_6 ?_
  refine va_get (D := D) (ci := 8) (v := .ref (h 7)) (C := RX8) (T := TX8) (N := 11) hx hb ht zinX8 hown hK hP 1 rfl rfl 9 (by decide) (ht _ zw_452) (fun _ h9 => h9) rfl dX11_needs_9 ?_
  refine lv_iload_n hx hb dX11_needs_12 rfl (lv_at hl 1 rfl) ?_
  refine va_aldq hx hb hK hP 2 0 rfl rfl (vp_in_iff.mpr ⟨hw_1.1, by have hq := hw_1.2; omega⟩) dX11_needs_13 ?_
  refine W.eq (g2 := F0 m 14 ls (.ref (h 8) :: [])) (by show F0 m _ ls (va_rf (fn p0.toNatClampNeg) :: _) = _; rw [hn _ (by exact zcl4 (by omega) (by omega))]; rfl) ?_
  refine vp_callSi (va_runV (As := []) (rest := []) ⟨hx, hb, hml, hown, ht⟩ (k_X0_countNames l D h cs) (cwV 0 ht (zG_V zw_454 zw_455 zw_456 zw_202 zw_457) rfl rfl rfl (by decide +kernel) ⟨Nat.le_of_ble_eq_true rfl, Nat.le_of_ble_eq_true rfl⟩) (zR_V (va_recv hK hP (ci := 0) (q0 := 3) rfl rfl) (hP.sub (ws' := [((h 8), .inr (0, [.ref (h 102), .ref (h 103), .int 0]))]) [3] rfl) (hK.sub (tys' := []) [] rfl)) rfl rfl hl.1 rfl (lv_room (Nat.le_of_ble_eq_true rfl)) dX11_needs_14 ⟨Nat.le_of_ble_eq_true rfl, Nat.le_of_ble_eq_true rfl⟩).run (fun r_3 hw_3 => ?_)
  obtain rfl : r_3 = 0 := hw_3
  have hP9 := hP.sub (ws' := []) [] rfl
  have hD9 := hD.sub (ws' := []) [] (by decide) rfl
  have hK9 := hK.sub (tys' := []) [] rfl
  refine W.widen (k := 1) (n := 6) (Nat.le_of_ble_eq_true rfl) (Nat.le_of_ble_eq_true rfl) ?_
  refine vx_ret ?_
  exact W.iret (v := 0) hx hb hr (fun t ht0 hW => ⟨⟨0, (), rfl, (show zS_needs p0 0 0 from (.inr ⟨rfl, by omega, rfl⟩)), (zE_of hP9 hK9 hD9 ht0 hW)⟩, hS.F ht0⟩) hS.2.2 dX11_needs_17
set_option maxHeartbeats 4000000 in
set_option maxRecDepth 100000 in
theorem k_X11_join (l : Launch) (hl0 : l.stackTraces = false) (sz : Nat) (D : va_G) (h cs : Nat → Nat) (p0 p1 p2 : Int32) (fn : Nat → Option Nat) (hn : ∀ k : Nat, k < 4 → fn k = some (h 8)) : vx_Met l yX11_join (.code yX11_join cX11_join 6 (some .int) :: zT) ({ frames := 7, cells := 4, slots := 24, locals := 111 }) (va_Pc [.ref (h 0), .int p0, .int p1, .int p2] (zW D [((h 0), .inr (11, [.ref (h 1), .ref (h 9), .int 0, .int 0, .ref (h 20), .ref (h 37), .int 0, .ref (h 38), .ref (h 42), .ref (h 43), .ref (h 44), .ref (h 45), .ref (h 46), .ref (h 47), .ref (h 48)])), ((h 1), .inr (8, [.ref (h 2), .int 0, .ref (h 3), .ref (h 4), .int 0, .ref (h 5), .int 0, .ref (h 6), .int 0, .ref (h 7), .int 0])), ((h 7), .inl ((cs 0), 4, .inr (.inr (.inr (.inr fn))))), ((h 8), .inr (0, [.ref (h 102), .ref (h 103), .int 0]))] [((cs 0), .object RX0)] sz)) (va_Qi (fun (r : Int32) (_ : Unit) => zS_join p0 p1 p2 0 r) (fun _ t => zE D [] [] (va_A [((h 0), .inr (11, [.ref (h 1), .ref (h 9), .int 0, .int 0, .ref (h 20), .ref (h 37), .int 0, .ref (h 38), .ref (h 42), .ref (h 43), .ref (h 44), .ref (h 45), .ref (h 46), .ref (h 47), .ref (h 48)])), ((h 1), .inr (8, [.ref (h 2), .int 0, .ref (h 3), .ref (h 4), .int 0, .ref (h 5), .int 0, .ref (h 6), .int 0, .ref (h 7), .int 0])), ((h 7), .inl ((cs 0), 4, .inr (.inr (.inr (.inr fn))))), ((h 8), .inr (0, [.ref (h 102), .ref (h 103), .int 0]))] sz) t) (va_A [((h 0), .inr (11, [.ref (h 1), .ref (h 9), .int 0, .int 0, .ref (h 20), .ref (h 37), .int 0, .ref (h 38), .ref (h 42), .ref (h 43), .ref (h 44), .ref (h 45), .ref (h 46), .ref (h 47), .ref (h 48)])), ((h 1), .inr (8, [.ref (h 2), .int 0, .ref (h 3), .ref (h 4), .int 0, .ref (h 5), .int 0, .ref (h 6), .int 0, .ref (h 7), .int 0])), ((h 7), .inl ((cs 0), 4, .inr (.inr (.inr (.inr fn))))), ((h 8), .inr (0, [.ref (h 102), .ref (h 103), .int 0]))] sz)) (vx_X (fun _ : Unit => True) (fun E _ _ => (E = "java/lang/IndexOutOfBoundsException" ∧ zS_join p0 p1 p2 1 0) ∨ (E = "java/lang/IllegalStateException" ∧ zS_join p0 p1 p2 2 0)) (va_A [((h 0), .inr (11, [.ref (h 1), .ref (h 9), .int 0, .int 0, .ref (h 20), .ref (h 37), .int 0, .ref (h 38), .ref (h 42), .ref (h 43), .ref (h 44), .ref (h 45), .ref (h 46), .ref (h 47), .ref (h 48)])), ((h 1), .inr (8, [.ref (h 2), .int 0, .ref (h 3), .ref (h 4), .int 0, .ref (h 5), .int 0, .ref (h 6), .int 0, .ref (h 7), .int 0])), ((h 7), .inl ((cs 0), 4, .inr (.inr (.inr (.inr fn))))), ((h 8), .inr (0, [.ref (h 102), .ref (h 103), .int 0]))] sz)) 4 24 (va_A [((h 0), .inr (11, [.ref (h 1), .ref (h 9), .int 0, .int 0, .ref (h 20), .ref (h 37), .int 0, .ref (h 38), .ref (h 42), .ref (h 43), .ref (h 44), .ref (h 45), .ref (h 46), .ref (h 47), .ref (h 48)])), ((h 1), .inr (8, [.ref (h 2), .int 0, .ref (h 3), .ref (h 4), .int 0, .ref (h 5), .int 0, .ref (h 6), .int 0, .ref (h 7), .int 0])), ((h 7), .inl ((cs 0), 4, .inr (.inr (.inr (.inr fn))))), ((h 8), .inr (0, [.ref (h 102), .ref (h 103), .int 0]))] sz) := by
  refine vx_ofW (cc := cX11_join) (maxL := 6) (ret := (some .int)) (by decide) rfl ?_
  intro p e s m args below meth c s₁ B hml hexc hv
  obtain ⟨rfl, hEx, hsz, hP, hK, hD0⟩ := hv
  have hx := B.exec
  have hb := B.bytes
  have hr := B.returns
  have hts := atoms_spec (ws := (.code yX11_join cX11_join 6 (some .int) :: zT)) B.pre
  have ht : ∀ w ∈ zT, w.before _ s = true := fun w h => hts w (List.mem_cons_of_mem _ h)
  have hown : s.vm.findClass RX11 = some m.cls := findClass_of_methodNamed B.named
  have hlocks := B.notSynchronized
  subst hsz
  have hD := hD0.self (sz := s.heap.size)
  generalize hAe : va_A [((h 0), .inr (11, [.ref (h 1), .ref (h 9), .int 0, .int 0, .ref (h 20), .ref (h 37), .int 0, .ref (h 38), .ref (h 42), .ref (h 43), .ref (h 44), .ref (h 45), .ref (h 46), .ref (h 47), .ref (h 48)])), ((h 1), .inr (8, [.ref (h 2), .int 0, .ref (h 3), .ref (h 4), .int 0, .ref (h 5), .int 0, .ref (h 6), .int 0, .ref (h 7), .int 0])), ((h 7), .inl ((cs 0), 4, .inr (.inr (.inr (.inr fn))))), ((h 8), .inr (0, [.ref (h 102), .ref (h 103), .int 0]))] s.heap.size = A at hD hEx ⊢
  have hA : ∀ q : Nat, s.heap.size ≤ q → A q := fun q h => by rw [← hAe]; exact Or.inr h
  have hS : va_S A s.heap s.heap [] := va_S.rf
  have hP : va_P D vwCl [((h 0), .inr (11, [.ref (h 1), .ref (h 9), .int 0, .int 0, .ref (h 20), .ref (h 37), .int 0, .ref (h 38), .ref (h 42), .ref (h 43), .ref (h 44), .ref (h 45), .ref (h 46), .ref (h 47), .ref (h 48)])), ((h 1), .inr (8, [.ref (h 2), .int 0, .ref (h 3), .ref (h 4), .int 0, .ref (h 5), .int 0, .ref (h 6), .int 0, .ref (h 7), .int 0])), ((h 7), .inl ((cs 0), 4, .inr (.inr (.inr (.inr fn))))), ((h 8), .inr (0, [.ref (h 102), .ref (h 103), .int 0]))] s.heap := hP
  have hl := lv_entry ([.ref (h 0), .int p0, .int p1, .int p2]) (n := 6) (Nat.le_of_ble_eq_true rfl)
  rw [lg_entry_eq]
  generalize (lg_sl ([.ref (h 0), .int p0, .int p1, .int p2]) ++ List.replicate (6 - (lg_sl ([.ref (h 0), .int p0, .int p1, .int p2])).length) Slot.unset).toArray = ls at hl ⊢
  have hl : lv_has ls 6 [(0, .ref (h 0)), (1, .int p0), (2, .int p1), (3, .int p2)] := hl
  skip
  refine lv_iload_n hx hb dX11_join_0 rfl (lv_at hl 1 rfl) ?_
  refine lv_iconst (v := 4) hx hb dX11_join_1 (by decide) ?_
  have hPc := hP.sub (ws' := []) [] rfl
  have hDc := hD.sub (ws' := []) [] (by decide) rfl
  have hKc := hK.sub (tys' := []) [] rfl
  have hFc := va_free (wc := []) hD hS hA [] rfl
  refine vx_callv (vx_runS (As := [.int p0, .int 4]) (rest := []) ⟨hx, hb, hml, hown, ht⟩ (k_X11_checkIndex l hl0 _ D p0 4) (va_cwS 2 ht (zG_S zw_402 zw_403 zw_404 zw_405) rfl rfl rfl (by decide +kernel) ⟨Nat.le_of_ble_eq_true rfl, Nat.le_of_ble_eq_true rfl⟩) (zW_S hEx hS hFc hPc hKc hDc) rfl rfl hl.1 rfl (lv_room (Nat.le_of_ble_eq_true rfl)) dX11_join_2 ⟨Nat.le_of_ble_eq_true rfl, Nat.le_of_ble_eq_true rfl⟩) hS (fun q _ h => hFc q h) hFc (fun q _ h => hFc q h) (fun E ce q9 uu t H1 locs1 ht0 hvm hpx hB hz1 hk1 hS hcell hv hcl => ?_) (fun u_1 t H1 locs ht0 hvm hw_1 hB hz1 hk1 hS => ?_)
  · exact vx_out (fun x hx => (hexc x hx).elim) hlocks hcell hv hcl (fun t2 h2 hv2 => ⟨(), trivial, (by obtain ⟨hE, hb9⟩ := hB; (try simp only [Int32.reduceToInt] at hb9); exact .inl ⟨hE, (show zS_join p0 p1 p2 1 0 from (.inl ⟨rfl, by omega⟩))⟩), hS.F h2⟩) hS.2.2 (Nat.le_of_ble_eq_true rfl) (Nat.le_of_ble_eq_true rfl)
  obtain ⟨hP1, hK1, hD1⟩ := hB
  rw [ht0] at hP1
  have hK1 := va_K.moved hvm.symm hK1
  obtain ⟨hP, hD⟩ := va_join (wr := [((h 0), .inr (11, [.ref (h 1), .ref (h 9), .int 0, .int 0, .ref (h 20), .ref (h 37), .int 0, .ref (h 38), .ref (h 42), .ref (h 43), .ref (h 44), .ref (h 45), .ref (h 46), .ref (h 47), .ref (h 48)])), ((h 1), .inr (8, [.ref (h 2), .int 0, .ref (h 3), .ref (h 4), .int 0, .ref (h 5), .int 0, .ref (h 6), .int 0, .ref (h 7), .int 0])), ((h 7), .inl ((cs 0), 4, .inr (.inr (.inr (.inr fn))))), ((h 8), .inr (0, [.ref (h 102), .ref (h 103), .int 0]))]) (w1 := []) hP hD [] [0, 1, 2, 3] rfl rfl (by decide) (by decide) hk1 hFc hP1 hD1
  generalize H1 = H at hP hS ⊢
  have hP : va_P D vwCl [((h 0), .inr (11, [.ref (h 1), .ref (h 9), .int 0, .int 0, .ref (h 20), .ref (h 37), .int 0, .ref (h 38), .ref (h 42), .ref (h 43), .ref (h 44), .ref (h 45), .ref (h 46), .ref (h 47), .ref (h 48)])), ((h 1), .inr (8, [.ref (h 2), .int 0, .ref (h 3), .ref (h 4), .int 0, .ref (h 5), .int 0, .ref (h 6), .int 0, .ref (h 7), .int 0])), ((h 7), .inl ((cs 0), 4, .inr (.inr (.inr (.inr fn))))), ((h 8), .inr (0, [.ref (h 102), .ref (h 103), .int 0]))] H := hP
  have hD : va_D A [((h 0), .inr (11, [.ref (h 1), .ref (h 9), .int 0, .int 0, .ref (h 20), .ref (h 37), .int 0, .ref (h 38), .ref (h 42), .ref (h 43), .ref (h 44), .ref (h 45), .ref (h 46), .ref (h 47), .ref (h 48)])), ((h 1), .inr (8, [.ref (h 2), .int 0, .ref (h 3), .ref (h 4), .int 0, .ref (h 5), .int 0, .ref (h 6), .int 0, .ref (h 7), .int 0])), ((h 7), .inl ((cs 0), 4, .inr (.inr (.inr (.inr fn))))), ((h 8), .inr (0, [.ref (h 102), .ref (h 103), .int 0]))] := hD
  refine W.widen (k := 1) (n := 6) (Nat.le_of_ble_eq_true rfl) (Nat.le_of_ble_eq_true rfl) ?_
  simp only [Int32.reduceToInt] at hw_1
  refine lv_iload_n hx hb dX11_join_5 rfl (lv_at hl 2 rfl) ?_
  refine lv_iconst (v := 4) hx hb dX11_join_6 (by decide) ?_
  have hPc := hP.sub (ws' := []) [] rfl
  have hDc := hD.sub (ws' := []) [] (by decide) rfl
  have hKc := hK.sub (tys' := []) [] rfl
  have hFc := va_free (wc := []) hD hS hA [] rfl
  refine vx_callv (vx_runS (As := [.int p1, .int 4]) (rest := []) ⟨hx, hb, hml, hown, ht⟩ (k_X11_checkIndex l hl0 _ D p1 4) (va_cwS 2 ht (zG_S zw_402 zw_403 zw_404 zw_405) rfl rfl rfl (by decide +kernel) ⟨Nat.le_of_ble_eq_true rfl, Nat.le_of_ble_eq_true rfl⟩) (zW_S hEx hS hFc hPc hKc hDc) rfl rfl hl.1 rfl (lv_room (Nat.le_of_ble_eq_true rfl)) dX11_join_7 ⟨Nat.le_of_ble_eq_true rfl, Nat.le_of_ble_eq_true rfl⟩) hS (fun q _ h => hFc q h) hFc (fun q _ h => hFc q h) (fun E ce q9 uu t H1 locs1 ht0 hvm hpx hB hz1 hk1 hS hcell hv hcl => ?_) (fun u_2 t H1 locs ht0 hvm hw_2 hB hz1 hk1 hS => ?_)
  · exact vx_out (fun x hx => (hexc x hx).elim) hlocks hcell hv hcl (fun t2 h2 hv2 => ⟨(), trivial, (by obtain ⟨hE, hb9⟩ := hB; (try simp only [Int32.reduceToInt] at hb9); exact .inl ⟨hE, (show zS_join p0 p1 p2 1 0 from (.inl ⟨rfl, by omega⟩))⟩), hS.F h2⟩) hS.2.2 (Nat.le_of_ble_eq_true rfl) (Nat.le_of_ble_eq_true rfl)
  obtain ⟨hP1, hK1, hD1⟩ := hB
  rw [ht0] at hP1
  have hK1 := va_K.moved hvm.symm hK1
  obtain ⟨hP, hD⟩ := va_join (wr := [((h 0), .inr (11, [.ref (h 1), .ref (h 9), .int 0, .int 0, .ref (h 20), .ref (h 37), .int 0, .ref (h 38), .ref (h 42), .ref (h 43), .ref (h 44), .ref (h 45), .ref (h 46), .ref (h 47), .ref (h 48)])), ((h 1), .inr (8, [.ref (h 2), .int 0, .ref (h 3), .ref (h 4), .int 0, .ref (h 5), .int 0, .ref (h 6), .int 0, .ref (h 7), .int 0])), ((h 7), .inl ((cs 0), 4, .inr (.inr (.inr (.inr fn))))), ((h 8), .inr (0, [.ref (h 102), .ref (h 103), .int 0]))]) (w1 := []) hP hD [] [0, 1, 2, 3] rfl rfl (by decide) (by decide) hk1 hFc hP1 hD1
  generalize H1 = H at hP hS ⊢
  have hP : va_P D vwCl [((h 0), .inr (11, [.ref (h 1), .ref (h 9), .int 0, .int 0, .ref (h 20), .ref (h 37), .int 0, .ref (h 38), .ref (h 42), .ref (h 43), .ref (h 44), .ref (h 45), .ref (h 46), .ref (h 47), .ref (h 48)])), ((h 1), .inr (8, [.ref (h 2), .int 0, .ref (h 3), .ref (h 4), .int 0, .ref (h 5), .int 0, .ref (h 6), .int 0, .ref (h 7), .int 0])), ((h 7), .inl ((cs 0), 4, .inr (.inr (.inr (.inr fn))))), ((h 8), .inr (0, [.ref (h 102), .ref (h 103), .int 0]))] H := hP
  have hD : va_D A [((h 0), .inr (11, [.ref (h 1), .ref (h 9), .int 0, .int 0, .ref (h 20), .ref (h 37), .int 0, .ref (h 38), .ref (h 42), .ref (h 43), .ref (h 44), .ref (h 45), .ref (h 46), .ref (h 47), .ref (h 48)])), ((h 1), .inr (8, [.ref (h 2), .int 0, .ref (h 3), .ref (h 4), .int 0, .ref (h 5), .int 0, .ref (h 6), .int 0, .ref (h 7), .int 0])), ((h 7), .inl ((cs 0), 4, .inr (.inr (.inr (.inr fn))))), ((h 8), .inr (0, [.ref (h 102), .ref (h 103), .int 0]))] := hD
  refine W.widen (k := 2) (n := 12) (Nat.le_of_ble_eq_true rfl) (Nat.le_of_ble_eq_true rfl) ?_
  simp only [Int32.reduceToInt] at hw_2
  refine lv_iload_n hx hb dX11_join_10 rfl (lv_at hl 3 rfl) ?_
  refine lv_iconst (v := 4) hx hb dX11_join_11 (by decide) ?_
  have hPc := hP.sub (ws' := []) [] rfl
  have hDc := hD.sub (ws' := []) [] (by decide) rfl
  have hKc := hK.sub (tys' := []) [] rfl
  have hFc := va_free (wc := []) hD hS hA [] rfl
  refine vx_callv (vx_runS (As := [.int p2, .int 4]) (rest := []) ⟨hx, hb, hml, hown, ht⟩ (k_X11_checkIndex l hl0 _ D p2 4) (va_cwS 2 ht (zG_S zw_402 zw_403 zw_404 zw_405) rfl rfl rfl (by decide +kernel) ⟨Nat.le_of_ble_eq_true rfl, Nat.le_of_ble_eq_true rfl⟩) (zW_S hEx hS hFc hPc hKc hDc) rfl rfl hl.1 rfl (lv_room (Nat.le_of_ble_eq_true rfl)) dX11_join_12 ⟨Nat.le_of_ble_eq_true rfl, Nat.le_of_ble_eq_true rfl⟩) hS (fun q _ h => hFc q h) hFc (fun q _ h => hFc q h) (fun E ce q9 uu t H1 locs1 ht0 hvm hpx hB hz1 hk1 hS hcell hv hcl => ?_) (fun u_3 t H1 locs ht0 hvm hw_3 hB hz1 hk1 hS => ?_)
  · exact vx_out (fun x hx => (hexc x hx).elim) hlocks hcell hv hcl (fun t2 h2 hv2 => ⟨(), trivial, (by obtain ⟨hE, hb9⟩ := hB; (try simp only [Int32.reduceToInt] at hb9); exact .inl ⟨hE, (show zS_join p0 p1 p2 1 0 from (.inl ⟨rfl, by omega⟩))⟩), hS.F h2⟩) hS.2.2 (Nat.le_of_ble_eq_true rfl) (Nat.le_of_ble_eq_true rfl)
  obtain ⟨hP1, hK1, hD1⟩ := hB
  rw [ht0] at hP1
  have hK1 := va_K.moved hvm.symm hK1
  obtain ⟨hP, hD⟩ := va_join (wr := [((h 0), .inr (11, [.ref (h 1), .ref (h 9), .int 0, .int 0, .ref (h 20), .ref (h 37), .int 0, .ref (h 38), .ref (h 42), .ref (h 43), .ref (h 44), .ref (h 45), .ref (h 46), .ref (h 47), .ref (h 48)])), ((h 1), .inr (8, [.ref (h 2), .int 0, .ref (h 3), .ref (h 4), .int 0, .ref (h 5), .int 0, .ref (h 6), .int 0, .ref (h 7), .int 0])), ((h 7), .inl ((cs 0), 4, .inr (.inr (.inr (.inr fn))))), ((h 8), .inr (0, [.ref (h 102), .ref (h 103), .int 0]))]) (w1 := []) hP hD [] [0, 1, 2, 3] rfl rfl (by decide) (by decide) hk1 hFc hP1 hD1
  generalize H1 = H at hP hS ⊢
  have hP : va_P D vwCl [((h 0), .inr (11, [.ref (h 1), .ref (h 9), .int 0, .int 0, .ref (h 20), .ref (h 37), .int 0, .ref (h 38), .ref (h 42), .ref (h 43), .ref (h 44), .ref (h 45), .ref (h 46), .ref (h 47), .ref (h 48)])), ((h 1), .inr (8, [.ref (h 2), .int 0, .ref (h 3), .ref (h 4), .int 0, .ref (h 5), .int 0, .ref (h 6), .int 0, .ref (h 7), .int 0])), ((h 7), .inl ((cs 0), 4, .inr (.inr (.inr (.inr fn))))), ((h 8), .inr (0, [.ref (h 102), .ref (h 103), .int 0]))] H := hP
  have hD : va_D A [((h 0), .inr (11, [.ref (h 1), .ref (h 9), .int 0, .int 0, .ref (h 20), .ref (h 37), .int 0, .ref (h 38), .ref (h 42), .ref (h 43), .ref (h 44), .ref (h 45), .ref (h 46), .ref (h 47), .ref (h 48)])), ((h 1), .inr (8, [.ref (h 2), .int 0, .ref (h 3), .ref (h 4), .int 0, .ref (h 5), .int 0, .ref (h 6), .int 0, .ref (h 7), .int 0])), ((h 7), .inl ((cs 0), 4, .inr (.inr (.inr (.inr fn))))), ((h 8), .inr (0, [.ref (h 102), .ref (h 103), .int 0]))] := hD
  refine W.widen (k := 3) (n := 18) (Nat.le_of_ble_eq_true rfl) (Nat.le_of_ble_eq_true rfl) ?_
  simp only [Int32.reduceToInt] at hw_3
  refine lv_aload_n hx hb dX11_join_15 rfl (lv_at hl 0 rfl) ?_
  refine va_get (D := D) (ci := 11) (v := .ref (h 1)) (C := RX11) (T := TX11) (N := 15) hx hb ht zinX11 hown hK hP 0 rfl rfl 0 (by decide) (ht _ zw_353) (fun _ h9 => h9) rfl dX11_join_16 ?_
  refine va_get (D := D) (ci := 8) (v := .ref (h 7)) (C := RX8) (T := TX8) (N := 11) hx hb ht zinX8 hown hK hP 1 rfl rfl 9 (by decide) (ht _ zw_452) (fun _ h9 => h9) rfl dX11_join_19 ?_
  refine lv_iload_n hx hb dX11_join_22 rfl (lv_at hl 1 rfl) ?_
  refine va_aldq hx hb hK hP 2 0 rfl rfl (vp_in_iff.mpr ⟨hw_1.1, by have hq := hw_1.2; omega⟩) dX11_join_23 ?_
  refine W.eq (g2 := F0 m 24 ls (.ref (h 8) :: [])) (by show F0 m _ ls (va_rf (fn p0.toNatClampNeg) :: _) = _; rw [hn _ (by exact zcl4 (by omega) (by omega))]; rfl) ?_
  refine lv_astore (lv' := [(4, .ref (h 8)), (0, .ref (h 0)), (1, .int p0), (2, .int p1), (3, .int p2)]) hx hb dX11_join_24 hl (by decide) rfl (fun ls hl => ?_)
  refine lv_aload_n hx hb dX11_join_26 rfl (lv_at hl 1 rfl) ?_
  refine va_get (D := D) (ci := 11) (v := .ref (h 1)) (C := RX11) (T := TX11) (N := 15) hx hb ht zinX11 hown hK hP 0 rfl rfl 0 (by decide) (ht _ zw_353) (fun _ h9 => h9) rfl dX11_join_27 ?_
  refine va_get (D := D) (ci := 8) (v := .ref (h 7)) (C := RX8) (T := TX8) (N := 11) hx hb ht zinX8 hown hK hP 1 rfl rfl 9 (by decide) (ht _ zw_452) (fun _ h9 => h9) rfl dX11_join_30 ?_
  refine lv_iload_n hx hb dX11_join_33 rfl (lv_at hl 3 rfl) ?_
  refine va_aldq hx hb hK hP 2 0 rfl rfl (vp_in_iff.mpr ⟨hw_2.1, by have hq := hw_2.2; omega⟩) dX11_join_34 ?_
  refine W.eq (g2 := F0 m 35 ls (.ref (h 8) :: [])) (by show F0 m _ ls (va_rf (fn p1.toNatClampNeg) :: _) = _; rw [hn _ (by exact zcl4 (by omega) (by omega))]; rfl) ?_
  refine lv_astore (lv' := [(5, .ref (h 8)), (4, .ref (h 8)), (0, .ref (h 0)), (1, .int p0), (2, .int p1), (3, .int p2)]) hx hb dX11_join_35 hl (by decide) rfl (fun ls hl => ?_)
  refine lv_aload hx hb dX11_join_37 (lv_at hl 1 rfl) ?_
  refine va_get (D := D) (ci := 0) (v := .int 0) (C := RX0) (T := TX0) (N := 3) hx hb ht zinX0 hown hK hP 3 rfl rfl 2 (by decide) (ht _ zw_453) (fun _ h9 => h9) rfl dX11_join_39 ?_
  refine lv_if_eq (tgt := 71) hx hb dX11_join_42 (by decide) (fun c_6 => ?_) (fun c_6 => ?_)
  · skip
    exact zthrow (k := 3) (names := ["java/lang/RuntimeException", "java/lang/Exception"]) (ix := 7) (rx := zSix) (text := "a chain has no line, or there would be more than 12") (is := 357) hx hb hl0 (by decide) (by decide) (by decide +kernel) (by decide +kernel) (by decide +kernel) (by decide +kernel) zw_392 zw_393 zAt_ISE zOt_ISE (by decide +kernel) (by decide +kernel) hown ht hEx hS (hl.1.trans hml.symm) dX11_join_71 dX11_join_74 (.inr ⟨dX11_join_75, rfl⟩) dX11_join_78 dX11_join_81 hexc (Nat.le_of_ble_eq_true rfl) (Nat.le_of_ble_eq_true rfl) (Nat.le_of_ble_eq_true rfl) (Nat.le_of_ble_eq_true rfl) hlocks (fun t hvm hF => ⟨(), trivial, (.inr (⟨rfl, (show zS_join p0 p1 p2 2 0 from (.inr ⟨rfl, by omega⟩))⟩)), hF⟩) hS.2.2 (Nat.le_of_ble_eq_true rfl) (Nat.le_of_ble_eq_true rfl)
  · skip
    exact absurd c_6 (by decide)
set_option maxHeartbeats 4000000 in
set_option maxRecDepth 100000 in
theorem k_X11_cut (l : Launch) (hl0 : l.stackTraces = false) (sz : Nat) (D : va_G) (h cs : Nat → Nat) (p0 p1 p2 p3 : Int32) (fn : Nat → Option Nat) (hn : ∀ k : Nat, k < 4 → fn k = some (h 8)) : vx_Met l yX11_cut (.code yX11_cut cX11_cut 5 (some .int) :: zT) ({ frames := 7, cells := 2, slots := 12, locals := 111 }) (va_Pc [.ref (h 0), .int p0, .int p1, .int p2, .int p3] (zW D [((h 0), .inr (11, [.ref (h 1), .ref (h 9), .int 0, .int 0, .ref (h 20), .ref (h 37), .int 0, .ref (h 38), .ref (h 42), .ref (h 43), .ref (h 44), .ref (h 45), .ref (h 46), .ref (h 47), .ref (h 48)])), ((h 1), .inr (8, [.ref (h 2), .int 0, .ref (h 3), .ref (h 4), .int 0, .ref (h 5), .int 0, .ref (h 6), .int 0, .ref (h 7), .int 0])), ((h 7), .inl ((cs 0), 4, .inr (.inr (.inr (.inr fn))))), ((h 8), .inr (0, [.ref (h 102), .ref (h 103), .int 0]))] [((cs 0), .object RX0)] sz)) (va_Qi (fun (r : Int32) (_ : Unit) => zS_cut p0 p1 p2 p3 0 r) (fun _ t => zE D [] [] (va_A [((h 0), .inr (11, [.ref (h 1), .ref (h 9), .int 0, .int 0, .ref (h 20), .ref (h 37), .int 0, .ref (h 38), .ref (h 42), .ref (h 43), .ref (h 44), .ref (h 45), .ref (h 46), .ref (h 47), .ref (h 48)])), ((h 1), .inr (8, [.ref (h 2), .int 0, .ref (h 3), .ref (h 4), .int 0, .ref (h 5), .int 0, .ref (h 6), .int 0, .ref (h 7), .int 0])), ((h 7), .inl ((cs 0), 4, .inr (.inr (.inr (.inr fn))))), ((h 8), .inr (0, [.ref (h 102), .ref (h 103), .int 0]))] sz) t) (va_A [((h 0), .inr (11, [.ref (h 1), .ref (h 9), .int 0, .int 0, .ref (h 20), .ref (h 37), .int 0, .ref (h 38), .ref (h 42), .ref (h 43), .ref (h 44), .ref (h 45), .ref (h 46), .ref (h 47), .ref (h 48)])), ((h 1), .inr (8, [.ref (h 2), .int 0, .ref (h 3), .ref (h 4), .int 0, .ref (h 5), .int 0, .ref (h 6), .int 0, .ref (h 7), .int 0])), ((h 7), .inl ((cs 0), 4, .inr (.inr (.inr (.inr fn))))), ((h 8), .inr (0, [.ref (h 102), .ref (h 103), .int 0]))] sz)) (vx_X (fun _ : Unit => True) (fun E _ _ => (E = "java/lang/IndexOutOfBoundsException" ∧ zS_cut p0 p1 p2 p3 1 0)) (va_A [((h 0), .inr (11, [.ref (h 1), .ref (h 9), .int 0, .int 0, .ref (h 20), .ref (h 37), .int 0, .ref (h 38), .ref (h 42), .ref (h 43), .ref (h 44), .ref (h 45), .ref (h 46), .ref (h 47), .ref (h 48)])), ((h 1), .inr (8, [.ref (h 2), .int 0, .ref (h 3), .ref (h 4), .int 0, .ref (h 5), .int 0, .ref (h 6), .int 0, .ref (h 7), .int 0])), ((h 7), .inl ((cs 0), 4, .inr (.inr (.inr (.inr fn))))), ((h 8), .inr (0, [.ref (h 102), .ref (h 103), .int 0]))] sz)) 2 12 (va_A [((h 0), .inr (11, [.ref (h 1), .ref (h 9), .int 0, .int 0, .ref (h 20), .ref (h 37), .int 0, .ref (h 38), .ref (h 42), .ref (h 43), .ref (h 44), .ref (h 45), .ref (h 46), .ref (h 47), .ref (h 48)])), ((h 1), .inr (8, [.ref (h 2), .int 0, .ref (h 3), .ref (h 4), .int 0, .ref (h 5), .int 0, .ref (h 6), .int 0, .ref (h 7), .int 0])), ((h 7), .inl ((cs 0), 4, .inr (.inr (.inr (.inr fn))))), ((h 8), .inr (0, [.ref (h 102), .ref (h 103), .int 0]))] sz) := by
  refine vx_ofW (cc := cX11_cut) (maxL := 5) (ret := (some .int)) (by decide) rfl ?_
  intro p e s m args below meth c s₁ B hml hexc hv
  obtain ⟨rfl, hEx, hsz, hP, hK, hD0⟩ := hv
  have hx := B.exec
  have hb := B.bytes
  have hr := B.returns
  have hts := atoms_spec (ws := (.code yX11_cut cX11_cut 5 (some .int) :: zT)) B.pre
  have ht : ∀ w ∈ zT, w.before _ s = true := fun w h => hts w (List.mem_cons_of_mem _ h)
  have hown : s.vm.findClass RX11 = some m.cls := findClass_of_methodNamed B.named
  have hlocks := B.notSynchronized
  subst hsz
  have hD := hD0.self (sz := s.heap.size)
  generalize hAe : va_A [((h 0), .inr (11, [.ref (h 1), .ref (h 9), .int 0, .int 0, .ref (h 20), .ref (h 37), .int 0, .ref (h 38), .ref (h 42), .ref (h 43), .ref (h 44), .ref (h 45), .ref (h 46), .ref (h 47), .ref (h 48)])), ((h 1), .inr (8, [.ref (h 2), .int 0, .ref (h 3), .ref (h 4), .int 0, .ref (h 5), .int 0, .ref (h 6), .int 0, .ref (h 7), .int 0])), ((h 7), .inl ((cs 0), 4, .inr (.inr (.inr (.inr fn))))), ((h 8), .inr (0, [.ref (h 102), .ref (h 103), .int 0]))] s.heap.size = A at hD hEx ⊢
  have hA : ∀ q : Nat, s.heap.size ≤ q → A q := fun q h => by rw [← hAe]; exact Or.inr h
  have hS : va_S A s.heap s.heap [] := va_S.rf
  have hP : va_P D vwCl [((h 0), .inr (11, [.ref (h 1), .ref (h 9), .int 0, .int 0, .ref (h 20), .ref (h 37), .int 0, .ref (h 38), .ref (h 42), .ref (h 43), .ref (h 44), .ref (h 45), .ref (h 46), .ref (h 47), .ref (h 48)])), ((h 1), .inr (8, [.ref (h 2), .int 0, .ref (h 3), .ref (h 4), .int 0, .ref (h 5), .int 0, .ref (h 6), .int 0, .ref (h 7), .int 0])), ((h 7), .inl ((cs 0), 4, .inr (.inr (.inr (.inr fn))))), ((h 8), .inr (0, [.ref (h 102), .ref (h 103), .int 0]))] s.heap := hP
  have hl := lv_entry ([.ref (h 0), .int p0, .int p1, .int p2, .int p3]) (n := 5) (Nat.le_of_ble_eq_true rfl)
  rw [lg_entry_eq]
  generalize (lg_sl ([.ref (h 0), .int p0, .int p1, .int p2, .int p3]) ++ List.replicate (5 - (lg_sl ([.ref (h 0), .int p0, .int p1, .int p2, .int p3])).length) Slot.unset).toArray = ls at hl ⊢
  have hl : lv_has ls 5 [(0, .ref (h 0)), (1, .int p0), (2, .int p1), (3, .int p2), (4, .int p3)] := hl
  skip
  refine lv_iload_n hx hb dX11_cut_0 rfl (lv_at hl 1 rfl) ?_
  refine lv_iconst (v := 4) hx hb dX11_cut_1 (by decide) ?_
  have hPc := hP.sub (ws' := []) [] rfl
  have hDc := hD.sub (ws' := []) [] (by decide) rfl
  have hKc := hK.sub (tys' := []) [] rfl
  have hFc := va_free (wc := []) hD hS hA [] rfl
  refine vx_callv (vx_runS (As := [.int p0, .int 4]) (rest := []) ⟨hx, hb, hml, hown, ht⟩ (k_X11_checkIndex l hl0 _ D p0 4) (va_cwS 2 ht (zG_S zw_402 zw_403 zw_404 zw_405) rfl rfl rfl (by decide +kernel) ⟨Nat.le_of_ble_eq_true rfl, Nat.le_of_ble_eq_true rfl⟩) (zW_S hEx hS hFc hPc hKc hDc) rfl rfl hl.1 rfl (lv_room (Nat.le_of_ble_eq_true rfl)) dX11_cut_2 ⟨Nat.le_of_ble_eq_true rfl, Nat.le_of_ble_eq_true rfl⟩) hS (fun q _ h => hFc q h) hFc (fun q _ h => hFc q h) (fun E ce q9 uu t H1 locs1 ht0 hvm hpx hB hz1 hk1 hS hcell hv hcl => ?_) (fun u_1 t H1 locs ht0 hvm hw_1 hB hz1 hk1 hS => ?_)
  · exact vx_out (fun x hx => (hexc x hx).elim) hlocks hcell hv hcl (fun t2 h2 hv2 => ⟨(), trivial, (by obtain ⟨hE, hb9⟩ := hB; (try simp only [Int32.reduceToInt] at hb9); exact ⟨hE, (show zS_cut p0 p1 p2 p3 1 0 from ⟨rfl, by trivial⟩)⟩), hS.F h2⟩) hS.2.2 (Nat.le_of_ble_eq_true rfl) (Nat.le_of_ble_eq_true rfl)
  obtain ⟨hP1, hK1, hD1⟩ := hB
  rw [ht0] at hP1
  have hK1 := va_K.moved hvm.symm hK1
  obtain ⟨hP, hD⟩ := va_join (wr := [((h 0), .inr (11, [.ref (h 1), .ref (h 9), .int 0, .int 0, .ref (h 20), .ref (h 37), .int 0, .ref (h 38), .ref (h 42), .ref (h 43), .ref (h 44), .ref (h 45), .ref (h 46), .ref (h 47), .ref (h 48)])), ((h 1), .inr (8, [.ref (h 2), .int 0, .ref (h 3), .ref (h 4), .int 0, .ref (h 5), .int 0, .ref (h 6), .int 0, .ref (h 7), .int 0])), ((h 7), .inl ((cs 0), 4, .inr (.inr (.inr (.inr fn))))), ((h 8), .inr (0, [.ref (h 102), .ref (h 103), .int 0]))]) (w1 := []) hP hD [] [0, 1, 2, 3] rfl rfl (by decide) (by decide) hk1 hFc hP1 hD1
  generalize H1 = H at hP hS ⊢
  have hP : va_P D vwCl [((h 0), .inr (11, [.ref (h 1), .ref (h 9), .int 0, .int 0, .ref (h 20), .ref (h 37), .int 0, .ref (h 38), .ref (h 42), .ref (h 43), .ref (h 44), .ref (h 45), .ref (h 46), .ref (h 47), .ref (h 48)])), ((h 1), .inr (8, [.ref (h 2), .int 0, .ref (h 3), .ref (h 4), .int 0, .ref (h 5), .int 0, .ref (h 6), .int 0, .ref (h 7), .int 0])), ((h 7), .inl ((cs 0), 4, .inr (.inr (.inr (.inr fn))))), ((h 8), .inr (0, [.ref (h 102), .ref (h 103), .int 0]))] H := hP
  have hD : va_D A [((h 0), .inr (11, [.ref (h 1), .ref (h 9), .int 0, .int 0, .ref (h 20), .ref (h 37), .int 0, .ref (h 38), .ref (h 42), .ref (h 43), .ref (h 44), .ref (h 45), .ref (h 46), .ref (h 47), .ref (h 48)])), ((h 1), .inr (8, [.ref (h 2), .int 0, .ref (h 3), .ref (h 4), .int 0, .ref (h 5), .int 0, .ref (h 6), .int 0, .ref (h 7), .int 0])), ((h 7), .inl ((cs 0), 4, .inr (.inr (.inr (.inr fn))))), ((h 8), .inr (0, [.ref (h 102), .ref (h 103), .int 0]))] := hD
  refine W.widen (k := 1) (n := 6) (Nat.le_of_ble_eq_true rfl) (Nat.le_of_ble_eq_true rfl) ?_
  simp only [Int32.reduceToInt] at hw_1
  refine lv_iload_n hx hb dX11_cut_5 rfl (lv_at hl 2 rfl) ?_
  refine lv_aload_n hx hb dX11_cut_6 rfl (lv_at hl 0 rfl) ?_
  refine va_get (D := D) (ci := 11) (v := .ref (h 1)) (C := RX11) (T := TX11) (N := 15) hx hb ht zinX11 hown hK hP 0 rfl rfl 0 (by decide) (ht _ zw_353) (fun _ h9 => h9) rfl dX11_cut_7 ?_
  refine va_get (D := D) (ci := 8) (v := .ref (h 7)) (C := RX8) (T := TX8) (N := 11) hx hb ht zinX8 hown hK hP 1 rfl rfl 9 (by decide) (ht _ zw_452) (fun _ h9 => h9) rfl dX11_cut_10 ?_
  refine lv_iload_n hx hb dX11_cut_13 rfl (lv_at hl 1 rfl) ?_
  refine va_aldq hx hb hK hP 2 0 rfl rfl (vp_in_iff.mpr ⟨hw_1.1, by have hq := hw_1.2; omega⟩) dX11_cut_14 ?_
  refine W.eq (g2 := F0 m 15 ls (.ref (h 8) :: .int p1 :: [])) (by show F0 m _ ls (va_rf (fn p0.toNatClampNeg) :: _) = _; rw [hn _ (by exact zcl4 (by omega) (by omega))]; rfl) ?_
  refine va_get (D := D) (ci := 0) (v := .int 0) (C := RX0) (T := TX0) (N := 3) hx hb ht zinX0 hown hK hP 3 rfl rfl 2 (by decide) (ht _ zw_453) (fun _ h9 => h9) rfl dX11_cut_15 ?_
  have hPc := hP.sub (ws' := []) [] rfl
  have hDc := hD.sub (ws' := []) [] (by decide) rfl
  have hKc := hK.sub (tys' := []) [] rfl
  have hFc := va_free (wc := []) hD hS hA [] rfl
  refine vx_callv (vx_runS (As := [.int p1, .int 0]) (rest := []) ⟨hx, hb, hml, hown, ht⟩ (k_X11_checkIndex l hl0 _ D p1 0) (va_cwS 2 ht (zG_S zw_402 zw_403 zw_404 zw_405) rfl rfl rfl (by decide +kernel) ⟨Nat.le_of_ble_eq_true rfl, Nat.le_of_ble_eq_true rfl⟩) (zW_S hEx hS hFc hPc hKc hDc) rfl rfl hl.1 rfl (lv_room (Nat.le_of_ble_eq_true rfl)) dX11_cut_18 ⟨Nat.le_of_ble_eq_true rfl, Nat.le_of_ble_eq_true rfl⟩) hS (fun q _ h => hFc q h) hFc (fun q _ h => hFc q h) (fun E ce q9 uu t H1 locs1 ht0 hvm hpx hB hz1 hk1 hS hcell hv hcl => ?_) (fun u_3 t H1 locs ht0 hvm hw_3 hB hz1 hk1 hS => ?_)
  · exact vx_out (fun x hx => (hexc x hx).elim) hlocks hcell hv hcl (fun t2 h2 hv2 => ⟨(), trivial, (by obtain ⟨hE, hb9⟩ := hB; (try simp only [Int32.reduceToInt] at hb9); exact ⟨hE, (show zS_cut p0 p1 p2 p3 1 0 from ⟨rfl, by trivial⟩)⟩), hS.F h2⟩) hS.2.2 (Nat.le_of_ble_eq_true rfl) (Nat.le_of_ble_eq_true rfl)
  obtain ⟨hP1, hK1, hD1⟩ := hB
  rw [ht0] at hP1
  have hK1 := va_K.moved hvm.symm hK1
  obtain ⟨hP, hD⟩ := va_join (wr := [((h 0), .inr (11, [.ref (h 1), .ref (h 9), .int 0, .int 0, .ref (h 20), .ref (h 37), .int 0, .ref (h 38), .ref (h 42), .ref (h 43), .ref (h 44), .ref (h 45), .ref (h 46), .ref (h 47), .ref (h 48)])), ((h 1), .inr (8, [.ref (h 2), .int 0, .ref (h 3), .ref (h 4), .int 0, .ref (h 5), .int 0, .ref (h 6), .int 0, .ref (h 7), .int 0])), ((h 7), .inl ((cs 0), 4, .inr (.inr (.inr (.inr fn))))), ((h 8), .inr (0, [.ref (h 102), .ref (h 103), .int 0]))]) (w1 := []) hP hD [] [0, 1, 2, 3] rfl rfl (by decide) (by decide) hk1 hFc hP1 hD1
  generalize H1 = H at hP hS ⊢
  have hP : va_P D vwCl [((h 0), .inr (11, [.ref (h 1), .ref (h 9), .int 0, .int 0, .ref (h 20), .ref (h 37), .int 0, .ref (h 38), .ref (h 42), .ref (h 43), .ref (h 44), .ref (h 45), .ref (h 46), .ref (h 47), .ref (h 48)])), ((h 1), .inr (8, [.ref (h 2), .int 0, .ref (h 3), .ref (h 4), .int 0, .ref (h 5), .int 0, .ref (h 6), .int 0, .ref (h 7), .int 0])), ((h 7), .inl ((cs 0), 4, .inr (.inr (.inr (.inr fn))))), ((h 8), .inr (0, [.ref (h 102), .ref (h 103), .int 0]))] H := hP
  have hD : va_D A [((h 0), .inr (11, [.ref (h 1), .ref (h 9), .int 0, .int 0, .ref (h 20), .ref (h 37), .int 0, .ref (h 38), .ref (h 42), .ref (h 43), .ref (h 44), .ref (h 45), .ref (h 46), .ref (h 47), .ref (h 48)])), ((h 1), .inr (8, [.ref (h 2), .int 0, .ref (h 3), .ref (h 4), .int 0, .ref (h 5), .int 0, .ref (h 6), .int 0, .ref (h 7), .int 0])), ((h 7), .inl ((cs 0), 4, .inr (.inr (.inr (.inr fn))))), ((h 8), .inr (0, [.ref (h 102), .ref (h 103), .int 0]))] := hD
  refine W.widen (k := 2) (n := 12) (Nat.le_of_ble_eq_true rfl) (Nat.le_of_ble_eq_true rfl) ?_
  simp only [Int32.reduceToInt] at hw_3
  exfalso; omega
set_option maxHeartbeats 4000000 in
set_option maxRecDepth 100000 in
theorem k_X11_take (l : Launch) (hl0 : l.stackTraces = false) (sz : Nat) (D : va_G) (h cs : Nat → Nat) (p0 p1 p2 : Int32) (fn : Nat → Option Nat) (hn : ∀ k : Nat, k < 4 → fn k = some (h 8)) : vx_Met l yX11_take (.code yX11_take cX11_take 5 (some .int) :: zT) ({ frames := 7, cells := 2, slots := 12, locals := 111 }) (va_Pc [.ref (h 0), .int p0, .int p1, .int p2] (zW D [((h 0), .inr (11, [.ref (h 1), .ref (h 9), .int 0, .int 0, .ref (h 20), .ref (h 37), .int 0, .ref (h 38), .ref (h 42), .ref (h 43), .ref (h 44), .ref (h 45), .ref (h 46), .ref (h 47), .ref (h 48)])), ((h 1), .inr (8, [.ref (h 2), .int 0, .ref (h 3), .ref (h 4), .int 0, .ref (h 5), .int 0, .ref (h 6), .int 0, .ref (h 7), .int 0])), ((h 7), .inl ((cs 0), 4, .inr (.inr (.inr (.inr fn))))), ((h 8), .inr (0, [.ref (h 102), .ref (h 103), .int 0]))] [((cs 0), .object RX0)] sz)) (va_Qi (fun (r : Int32) (_ : Unit) => zS_take p0 p1 p2 0 r) (fun _ t => zE D [] [] (va_A [((h 0), .inr (11, [.ref (h 1), .ref (h 9), .int 0, .int 0, .ref (h 20), .ref (h 37), .int 0, .ref (h 38), .ref (h 42), .ref (h 43), .ref (h 44), .ref (h 45), .ref (h 46), .ref (h 47), .ref (h 48)])), ((h 1), .inr (8, [.ref (h 2), .int 0, .ref (h 3), .ref (h 4), .int 0, .ref (h 5), .int 0, .ref (h 6), .int 0, .ref (h 7), .int 0])), ((h 7), .inl ((cs 0), 4, .inr (.inr (.inr (.inr fn))))), ((h 8), .inr (0, [.ref (h 102), .ref (h 103), .int 0]))] sz) t) (va_A [((h 0), .inr (11, [.ref (h 1), .ref (h 9), .int 0, .int 0, .ref (h 20), .ref (h 37), .int 0, .ref (h 38), .ref (h 42), .ref (h 43), .ref (h 44), .ref (h 45), .ref (h 46), .ref (h 47), .ref (h 48)])), ((h 1), .inr (8, [.ref (h 2), .int 0, .ref (h 3), .ref (h 4), .int 0, .ref (h 5), .int 0, .ref (h 6), .int 0, .ref (h 7), .int 0])), ((h 7), .inl ((cs 0), 4, .inr (.inr (.inr (.inr fn))))), ((h 8), .inr (0, [.ref (h 102), .ref (h 103), .int 0]))] sz)) (vx_X (fun _ : Unit => True) (fun E _ _ => (E = "java/lang/IndexOutOfBoundsException" ∧ zS_take p0 p1 p2 1 0)) (va_A [((h 0), .inr (11, [.ref (h 1), .ref (h 9), .int 0, .int 0, .ref (h 20), .ref (h 37), .int 0, .ref (h 38), .ref (h 42), .ref (h 43), .ref (h 44), .ref (h 45), .ref (h 46), .ref (h 47), .ref (h 48)])), ((h 1), .inr (8, [.ref (h 2), .int 0, .ref (h 3), .ref (h 4), .int 0, .ref (h 5), .int 0, .ref (h 6), .int 0, .ref (h 7), .int 0])), ((h 7), .inl ((cs 0), 4, .inr (.inr (.inr (.inr fn))))), ((h 8), .inr (0, [.ref (h 102), .ref (h 103), .int 0]))] sz)) 2 12 (va_A [((h 0), .inr (11, [.ref (h 1), .ref (h 9), .int 0, .int 0, .ref (h 20), .ref (h 37), .int 0, .ref (h 38), .ref (h 42), .ref (h 43), .ref (h 44), .ref (h 45), .ref (h 46), .ref (h 47), .ref (h 48)])), ((h 1), .inr (8, [.ref (h 2), .int 0, .ref (h 3), .ref (h 4), .int 0, .ref (h 5), .int 0, .ref (h 6), .int 0, .ref (h 7), .int 0])), ((h 7), .inl ((cs 0), 4, .inr (.inr (.inr (.inr fn))))), ((h 8), .inr (0, [.ref (h 102), .ref (h 103), .int 0]))] sz) := by
  refine vx_ofW (cc := cX11_take) (maxL := 5) (ret := (some .int)) (by decide) rfl ?_
  intro p e s m args below meth c s₁ B hml hexc hv
  obtain ⟨rfl, hEx, hsz, hP, hK, hD0⟩ := hv
  have hx := B.exec
  have hb := B.bytes
  have hr := B.returns
  have hts := atoms_spec (ws := (.code yX11_take cX11_take 5 (some .int) :: zT)) B.pre
  have ht : ∀ w ∈ zT, w.before _ s = true := fun w h => hts w (List.mem_cons_of_mem _ h)
  have hown : s.vm.findClass RX11 = some m.cls := findClass_of_methodNamed B.named
  have hlocks := B.notSynchronized
  subst hsz
  have hD := hD0.self (sz := s.heap.size)
  generalize hAe : va_A [((h 0), .inr (11, [.ref (h 1), .ref (h 9), .int 0, .int 0, .ref (h 20), .ref (h 37), .int 0, .ref (h 38), .ref (h 42), .ref (h 43), .ref (h 44), .ref (h 45), .ref (h 46), .ref (h 47), .ref (h 48)])), ((h 1), .inr (8, [.ref (h 2), .int 0, .ref (h 3), .ref (h 4), .int 0, .ref (h 5), .int 0, .ref (h 6), .int 0, .ref (h 7), .int 0])), ((h 7), .inl ((cs 0), 4, .inr (.inr (.inr (.inr fn))))), ((h 8), .inr (0, [.ref (h 102), .ref (h 103), .int 0]))] s.heap.size = A at hD hEx ⊢
  have hA : ∀ q : Nat, s.heap.size ≤ q → A q := fun q h => by rw [← hAe]; exact Or.inr h
  have hS : va_S A s.heap s.heap [] := va_S.rf
  have hP : va_P D vwCl [((h 0), .inr (11, [.ref (h 1), .ref (h 9), .int 0, .int 0, .ref (h 20), .ref (h 37), .int 0, .ref (h 38), .ref (h 42), .ref (h 43), .ref (h 44), .ref (h 45), .ref (h 46), .ref (h 47), .ref (h 48)])), ((h 1), .inr (8, [.ref (h 2), .int 0, .ref (h 3), .ref (h 4), .int 0, .ref (h 5), .int 0, .ref (h 6), .int 0, .ref (h 7), .int 0])), ((h 7), .inl ((cs 0), 4, .inr (.inr (.inr (.inr fn))))), ((h 8), .inr (0, [.ref (h 102), .ref (h 103), .int 0]))] s.heap := hP
  have hl := lv_entry ([.ref (h 0), .int p0, .int p1, .int p2]) (n := 5) (Nat.le_of_ble_eq_true rfl)
  rw [lg_entry_eq]
  generalize (lg_sl ([.ref (h 0), .int p0, .int p1, .int p2]) ++ List.replicate (5 - (lg_sl ([.ref (h 0), .int p0, .int p1, .int p2])).length) Slot.unset).toArray = ls at hl ⊢
  have hl : lv_has ls 5 [(0, .ref (h 0)), (1, .int p0), (2, .int p1), (3, .int p2)] := hl
  skip
  refine lv_iload_n hx hb dX11_take_0 rfl (lv_at hl 1 rfl) ?_
  refine lv_iconst (v := 4) hx hb dX11_take_1 (by decide) ?_
  have hPc := hP.sub (ws' := []) [] rfl
  have hDc := hD.sub (ws' := []) [] (by decide) rfl
  have hKc := hK.sub (tys' := []) [] rfl
  have hFc := va_free (wc := []) hD hS hA [] rfl
  refine vx_callv (vx_runS (As := [.int p0, .int 4]) (rest := []) ⟨hx, hb, hml, hown, ht⟩ (k_X11_checkIndex l hl0 _ D p0 4) (va_cwS 2 ht (zG_S zw_402 zw_403 zw_404 zw_405) rfl rfl rfl (by decide +kernel) ⟨Nat.le_of_ble_eq_true rfl, Nat.le_of_ble_eq_true rfl⟩) (zW_S hEx hS hFc hPc hKc hDc) rfl rfl hl.1 rfl (lv_room (Nat.le_of_ble_eq_true rfl)) dX11_take_2 ⟨Nat.le_of_ble_eq_true rfl, Nat.le_of_ble_eq_true rfl⟩) hS (fun q _ h => hFc q h) hFc (fun q _ h => hFc q h) (fun E ce q9 uu t H1 locs1 ht0 hvm hpx hB hz1 hk1 hS hcell hv hcl => ?_) (fun u_1 t H1 locs ht0 hvm hw_1 hB hz1 hk1 hS => ?_)
  · exact vx_out (fun x hx => (hexc x hx).elim) hlocks hcell hv hcl (fun t2 h2 hv2 => ⟨(), trivial, (by obtain ⟨hE, hb9⟩ := hB; (try simp only [Int32.reduceToInt] at hb9); exact ⟨hE, (show zS_take p0 p1 p2 1 0 from ⟨rfl, by trivial⟩)⟩), hS.F h2⟩) hS.2.2 (Nat.le_of_ble_eq_true rfl) (Nat.le_of_ble_eq_true rfl)
  obtain ⟨hP1, hK1, hD1⟩ := hB
  rw [ht0] at hP1
  have hK1 := va_K.moved hvm.symm hK1
  obtain ⟨hP, hD⟩ := va_join (wr := [((h 0), .inr (11, [.ref (h 1), .ref (h 9), .int 0, .int 0, .ref (h 20), .ref (h 37), .int 0, .ref (h 38), .ref (h 42), .ref (h 43), .ref (h 44), .ref (h 45), .ref (h 46), .ref (h 47), .ref (h 48)])), ((h 1), .inr (8, [.ref (h 2), .int 0, .ref (h 3), .ref (h 4), .int 0, .ref (h 5), .int 0, .ref (h 6), .int 0, .ref (h 7), .int 0])), ((h 7), .inl ((cs 0), 4, .inr (.inr (.inr (.inr fn))))), ((h 8), .inr (0, [.ref (h 102), .ref (h 103), .int 0]))]) (w1 := []) hP hD [] [0, 1, 2, 3] rfl rfl (by decide) (by decide) hk1 hFc hP1 hD1
  generalize H1 = H at hP hS ⊢
  have hP : va_P D vwCl [((h 0), .inr (11, [.ref (h 1), .ref (h 9), .int 0, .int 0, .ref (h 20), .ref (h 37), .int 0, .ref (h 38), .ref (h 42), .ref (h 43), .ref (h 44), .ref (h 45), .ref (h 46), .ref (h 47), .ref (h 48)])), ((h 1), .inr (8, [.ref (h 2), .int 0, .ref (h 3), .ref (h 4), .int 0, .ref (h 5), .int 0, .ref (h 6), .int 0, .ref (h 7), .int 0])), ((h 7), .inl ((cs 0), 4, .inr (.inr (.inr (.inr fn))))), ((h 8), .inr (0, [.ref (h 102), .ref (h 103), .int 0]))] H := hP
  have hD : va_D A [((h 0), .inr (11, [.ref (h 1), .ref (h 9), .int 0, .int 0, .ref (h 20), .ref (h 37), .int 0, .ref (h 38), .ref (h 42), .ref (h 43), .ref (h 44), .ref (h 45), .ref (h 46), .ref (h 47), .ref (h 48)])), ((h 1), .inr (8, [.ref (h 2), .int 0, .ref (h 3), .ref (h 4), .int 0, .ref (h 5), .int 0, .ref (h 6), .int 0, .ref (h 7), .int 0])), ((h 7), .inl ((cs 0), 4, .inr (.inr (.inr (.inr fn))))), ((h 8), .inr (0, [.ref (h 102), .ref (h 103), .int 0]))] := hD
  refine W.widen (k := 1) (n := 6) (Nat.le_of_ble_eq_true rfl) (Nat.le_of_ble_eq_true rfl) ?_
  simp only [Int32.reduceToInt] at hw_1
  refine lv_iload_n hx hb dX11_take_5 rfl (lv_at hl 2 rfl) ?_
  refine lv_aload_n hx hb dX11_take_6 rfl (lv_at hl 0 rfl) ?_
  refine va_get (D := D) (ci := 11) (v := .ref (h 1)) (C := RX11) (T := TX11) (N := 15) hx hb ht zinX11 hown hK hP 0 rfl rfl 0 (by decide) (ht _ zw_353) (fun _ h9 => h9) rfl dX11_take_7 ?_
  refine va_get (D := D) (ci := 8) (v := .ref (h 7)) (C := RX8) (T := TX8) (N := 11) hx hb ht zinX8 hown hK hP 1 rfl rfl 9 (by decide) (ht _ zw_452) (fun _ h9 => h9) rfl dX11_take_10 ?_
  refine lv_iload_n hx hb dX11_take_13 rfl (lv_at hl 1 rfl) ?_
  refine va_aldq hx hb hK hP 2 0 rfl rfl (vp_in_iff.mpr ⟨hw_1.1, by have hq := hw_1.2; omega⟩) dX11_take_14 ?_
  refine W.eq (g2 := F0 m 15 ls (.ref (h 8) :: .int p1 :: [])) (by show F0 m _ ls (va_rf (fn p0.toNatClampNeg) :: _) = _; rw [hn _ (by exact zcl4 (by omega) (by omega))]; rfl) ?_
  refine va_get (D := D) (ci := 0) (v := .int 0) (C := RX0) (T := TX0) (N := 3) hx hb ht zinX0 hown hK hP 3 rfl rfl 2 (by decide) (ht _ zw_453) (fun _ h9 => h9) rfl dX11_take_15 ?_
  have hPc := hP.sub (ws' := []) [] rfl
  have hDc := hD.sub (ws' := []) [] (by decide) rfl
  have hKc := hK.sub (tys' := []) [] rfl
  have hFc := va_free (wc := []) hD hS hA [] rfl
  refine vx_callv (vx_runS (As := [.int p1, .int 0]) (rest := []) ⟨hx, hb, hml, hown, ht⟩ (k_X11_checkIndex l hl0 _ D p1 0) (va_cwS 2 ht (zG_S zw_402 zw_403 zw_404 zw_405) rfl rfl rfl (by decide +kernel) ⟨Nat.le_of_ble_eq_true rfl, Nat.le_of_ble_eq_true rfl⟩) (zW_S hEx hS hFc hPc hKc hDc) rfl rfl hl.1 rfl (lv_room (Nat.le_of_ble_eq_true rfl)) dX11_take_18 ⟨Nat.le_of_ble_eq_true rfl, Nat.le_of_ble_eq_true rfl⟩) hS (fun q _ h => hFc q h) hFc (fun q _ h => hFc q h) (fun E ce q9 uu t H1 locs1 ht0 hvm hpx hB hz1 hk1 hS hcell hv hcl => ?_) (fun u_3 t H1 locs ht0 hvm hw_3 hB hz1 hk1 hS => ?_)
  · exact vx_out (fun x hx => (hexc x hx).elim) hlocks hcell hv hcl (fun t2 h2 hv2 => ⟨(), trivial, (by obtain ⟨hE, hb9⟩ := hB; (try simp only [Int32.reduceToInt] at hb9); exact ⟨hE, (show zS_take p0 p1 p2 1 0 from ⟨rfl, by trivial⟩)⟩), hS.F h2⟩) hS.2.2 (Nat.le_of_ble_eq_true rfl) (Nat.le_of_ble_eq_true rfl)
  obtain ⟨hP1, hK1, hD1⟩ := hB
  rw [ht0] at hP1
  have hK1 := va_K.moved hvm.symm hK1
  obtain ⟨hP, hD⟩ := va_join (wr := [((h 0), .inr (11, [.ref (h 1), .ref (h 9), .int 0, .int 0, .ref (h 20), .ref (h 37), .int 0, .ref (h 38), .ref (h 42), .ref (h 43), .ref (h 44), .ref (h 45), .ref (h 46), .ref (h 47), .ref (h 48)])), ((h 1), .inr (8, [.ref (h 2), .int 0, .ref (h 3), .ref (h 4), .int 0, .ref (h 5), .int 0, .ref (h 6), .int 0, .ref (h 7), .int 0])), ((h 7), .inl ((cs 0), 4, .inr (.inr (.inr (.inr fn))))), ((h 8), .inr (0, [.ref (h 102), .ref (h 103), .int 0]))]) (w1 := []) hP hD [] [0, 1, 2, 3] rfl rfl (by decide) (by decide) hk1 hFc hP1 hD1
  generalize H1 = H at hP hS ⊢
  have hP : va_P D vwCl [((h 0), .inr (11, [.ref (h 1), .ref (h 9), .int 0, .int 0, .ref (h 20), .ref (h 37), .int 0, .ref (h 38), .ref (h 42), .ref (h 43), .ref (h 44), .ref (h 45), .ref (h 46), .ref (h 47), .ref (h 48)])), ((h 1), .inr (8, [.ref (h 2), .int 0, .ref (h 3), .ref (h 4), .int 0, .ref (h 5), .int 0, .ref (h 6), .int 0, .ref (h 7), .int 0])), ((h 7), .inl ((cs 0), 4, .inr (.inr (.inr (.inr fn))))), ((h 8), .inr (0, [.ref (h 102), .ref (h 103), .int 0]))] H := hP
  have hD : va_D A [((h 0), .inr (11, [.ref (h 1), .ref (h 9), .int 0, .int 0, .ref (h 20), .ref (h 37), .int 0, .ref (h 38), .ref (h 42), .ref (h 43), .ref (h 44), .ref (h 45), .ref (h 46), .ref (h 47), .ref (h 48)])), ((h 1), .inr (8, [.ref (h 2), .int 0, .ref (h 3), .ref (h 4), .int 0, .ref (h 5), .int 0, .ref (h 6), .int 0, .ref (h 7), .int 0])), ((h 7), .inl ((cs 0), 4, .inr (.inr (.inr (.inr fn))))), ((h 8), .inr (0, [.ref (h 102), .ref (h 103), .int 0]))] := hD
  refine W.widen (k := 2) (n := 12) (Nat.le_of_ble_eq_true rfl) (Nat.le_of_ble_eq_true rfl) ?_
  simp only [Int32.reduceToInt] at hw_3
  exfalso; omega
set_option maxHeartbeats 4000000 in
set_option maxRecDepth 100000 in
theorem k_X11_stepAt (l : Launch) (hl0 : l.stackTraces = false) (sz : Nat) (D : va_G) (h cs : Nat → Nat) (p0 p1 p2 : Int32) (fn : Nat → Option Nat) (hn : ∀ k : Nat, k < 4 → fn k = some (h 8)) : vx_Met l yX11_stepAt (.code yX11_stepAt cX11_stepAt 6 (some .int) :: zT) ({ frames := 7, cells := 2, slots := 12, locals := 111 }) (va_Pc [.ref (h 0), .int p0, .int p1, .int p2] (zW D [((h 0), .inr (11, [.ref (h 1), .ref (h 9), .int 0, .int 0, .ref (h 20), .ref (h 37), .int 0, .ref (h 38), .ref (h 42), .ref (h 43), .ref (h 44), .ref (h 45), .ref (h 46), .ref (h 47), .ref (h 48)])), ((h 1), .inr (8, [.ref (h 2), .int 0, .ref (h 3), .ref (h 4), .int 0, .ref (h 5), .int 0, .ref (h 6), .int 0, .ref (h 7), .int 0])), ((h 7), .inl ((cs 0), 4, .inr (.inr (.inr (.inr fn))))), ((h 8), .inr (0, [.ref (h 102), .ref (h 103), .int 0]))] [((cs 0), .object RX0)] sz)) (va_Qi (fun (r : Int32) (_ : Unit) => zS_stepAt p0 p1 p2 0 r) (fun _ t => zE D [] [] (va_A [((h 0), .inr (11, [.ref (h 1), .ref (h 9), .int 0, .int 0, .ref (h 20), .ref (h 37), .int 0, .ref (h 38), .ref (h 42), .ref (h 43), .ref (h 44), .ref (h 45), .ref (h 46), .ref (h 47), .ref (h 48)])), ((h 1), .inr (8, [.ref (h 2), .int 0, .ref (h 3), .ref (h 4), .int 0, .ref (h 5), .int 0, .ref (h 6), .int 0, .ref (h 7), .int 0])), ((h 7), .inl ((cs 0), 4, .inr (.inr (.inr (.inr fn))))), ((h 8), .inr (0, [.ref (h 102), .ref (h 103), .int 0]))] sz) t) (va_A [((h 0), .inr (11, [.ref (h 1), .ref (h 9), .int 0, .int 0, .ref (h 20), .ref (h 37), .int 0, .ref (h 38), .ref (h 42), .ref (h 43), .ref (h 44), .ref (h 45), .ref (h 46), .ref (h 47), .ref (h 48)])), ((h 1), .inr (8, [.ref (h 2), .int 0, .ref (h 3), .ref (h 4), .int 0, .ref (h 5), .int 0, .ref (h 6), .int 0, .ref (h 7), .int 0])), ((h 7), .inl ((cs 0), 4, .inr (.inr (.inr (.inr fn))))), ((h 8), .inr (0, [.ref (h 102), .ref (h 103), .int 0]))] sz)) (vx_X (fun _ : Unit => True) (fun E _ _ => (E = "java/lang/IndexOutOfBoundsException" ∧ zS_stepAt p0 p1 p2 1 0)) (va_A [((h 0), .inr (11, [.ref (h 1), .ref (h 9), .int 0, .int 0, .ref (h 20), .ref (h 37), .int 0, .ref (h 38), .ref (h 42), .ref (h 43), .ref (h 44), .ref (h 45), .ref (h 46), .ref (h 47), .ref (h 48)])), ((h 1), .inr (8, [.ref (h 2), .int 0, .ref (h 3), .ref (h 4), .int 0, .ref (h 5), .int 0, .ref (h 6), .int 0, .ref (h 7), .int 0])), ((h 7), .inl ((cs 0), 4, .inr (.inr (.inr (.inr fn))))), ((h 8), .inr (0, [.ref (h 102), .ref (h 103), .int 0]))] sz)) 2 12 (va_A [((h 0), .inr (11, [.ref (h 1), .ref (h 9), .int 0, .int 0, .ref (h 20), .ref (h 37), .int 0, .ref (h 38), .ref (h 42), .ref (h 43), .ref (h 44), .ref (h 45), .ref (h 46), .ref (h 47), .ref (h 48)])), ((h 1), .inr (8, [.ref (h 2), .int 0, .ref (h 3), .ref (h 4), .int 0, .ref (h 5), .int 0, .ref (h 6), .int 0, .ref (h 7), .int 0])), ((h 7), .inl ((cs 0), 4, .inr (.inr (.inr (.inr fn))))), ((h 8), .inr (0, [.ref (h 102), .ref (h 103), .int 0]))] sz) := by
  refine vx_ofW (cc := cX11_stepAt) (maxL := 6) (ret := (some .int)) (by decide) rfl ?_
  intro p e s m args below meth c s₁ B hml hexc hv
  obtain ⟨rfl, hEx, hsz, hP, hK, hD0⟩ := hv
  have hx := B.exec
  have hb := B.bytes
  have hr := B.returns
  have hts := atoms_spec (ws := (.code yX11_stepAt cX11_stepAt 6 (some .int) :: zT)) B.pre
  have ht : ∀ w ∈ zT, w.before _ s = true := fun w h => hts w (List.mem_cons_of_mem _ h)
  have hown : s.vm.findClass RX11 = some m.cls := findClass_of_methodNamed B.named
  have hlocks := B.notSynchronized
  subst hsz
  have hD := hD0.self (sz := s.heap.size)
  generalize hAe : va_A [((h 0), .inr (11, [.ref (h 1), .ref (h 9), .int 0, .int 0, .ref (h 20), .ref (h 37), .int 0, .ref (h 38), .ref (h 42), .ref (h 43), .ref (h 44), .ref (h 45), .ref (h 46), .ref (h 47), .ref (h 48)])), ((h 1), .inr (8, [.ref (h 2), .int 0, .ref (h 3), .ref (h 4), .int 0, .ref (h 5), .int 0, .ref (h 6), .int 0, .ref (h 7), .int 0])), ((h 7), .inl ((cs 0), 4, .inr (.inr (.inr (.inr fn))))), ((h 8), .inr (0, [.ref (h 102), .ref (h 103), .int 0]))] s.heap.size = A at hD hEx ⊢
  have hA : ∀ q : Nat, s.heap.size ≤ q → A q := fun q h => by rw [← hAe]; exact Or.inr h
  have hS : va_S A s.heap s.heap [] := va_S.rf
  have hP : va_P D vwCl [((h 0), .inr (11, [.ref (h 1), .ref (h 9), .int 0, .int 0, .ref (h 20), .ref (h 37), .int 0, .ref (h 38), .ref (h 42), .ref (h 43), .ref (h 44), .ref (h 45), .ref (h 46), .ref (h 47), .ref (h 48)])), ((h 1), .inr (8, [.ref (h 2), .int 0, .ref (h 3), .ref (h 4), .int 0, .ref (h 5), .int 0, .ref (h 6), .int 0, .ref (h 7), .int 0])), ((h 7), .inl ((cs 0), 4, .inr (.inr (.inr (.inr fn))))), ((h 8), .inr (0, [.ref (h 102), .ref (h 103), .int 0]))] s.heap := hP
  have hl := lv_entry ([.ref (h 0), .int p0, .int p1, .int p2]) (n := 6) (Nat.le_of_ble_eq_true rfl)
  rw [lg_entry_eq]
  generalize (lg_sl ([.ref (h 0), .int p0, .int p1, .int p2]) ++ List.replicate (6 - (lg_sl ([.ref (h 0), .int p0, .int p1, .int p2])).length) Slot.unset).toArray = ls at hl ⊢
  have hl : lv_has ls 6 [(0, .ref (h 0)), (1, .int p0), (2, .int p1), (3, .int p2)] := hl
  skip
  refine lv_iload_n hx hb dX11_stepAt_0 rfl (lv_at hl 1 rfl) ?_
  refine lv_iconst (v := 4) hx hb dX11_stepAt_1 (by decide) ?_
  have hPc := hP.sub (ws' := []) [] rfl
  have hDc := hD.sub (ws' := []) [] (by decide) rfl
  have hKc := hK.sub (tys' := []) [] rfl
  have hFc := va_free (wc := []) hD hS hA [] rfl
  refine vx_callv (vx_runS (As := [.int p0, .int 4]) (rest := []) ⟨hx, hb, hml, hown, ht⟩ (k_X11_checkIndex l hl0 _ D p0 4) (va_cwS 2 ht (zG_S zw_402 zw_403 zw_404 zw_405) rfl rfl rfl (by decide +kernel) ⟨Nat.le_of_ble_eq_true rfl, Nat.le_of_ble_eq_true rfl⟩) (zW_S hEx hS hFc hPc hKc hDc) rfl rfl hl.1 rfl (lv_room (Nat.le_of_ble_eq_true rfl)) dX11_stepAt_2 ⟨Nat.le_of_ble_eq_true rfl, Nat.le_of_ble_eq_true rfl⟩) hS (fun q _ h => hFc q h) hFc (fun q _ h => hFc q h) (fun E ce q9 uu t H1 locs1 ht0 hvm hpx hB hz1 hk1 hS hcell hv hcl => ?_) (fun u_1 t H1 locs ht0 hvm hw_1 hB hz1 hk1 hS => ?_)
  · exact vx_out (fun x hx => (hexc x hx).elim) hlocks hcell hv hcl (fun t2 h2 hv2 => ⟨(), trivial, (by obtain ⟨hE, hb9⟩ := hB; (try simp only [Int32.reduceToInt] at hb9); exact ⟨hE, (show zS_stepAt p0 p1 p2 1 0 from ⟨rfl, by trivial⟩)⟩), hS.F h2⟩) hS.2.2 (Nat.le_of_ble_eq_true rfl) (Nat.le_of_ble_eq_true rfl)
  obtain ⟨hP1, hK1, hD1⟩ := hB
  rw [ht0] at hP1
  have hK1 := va_K.moved hvm.symm hK1
  obtain ⟨hP, hD⟩ := va_join (wr := [((h 0), .inr (11, [.ref (h 1), .ref (h 9), .int 0, .int 0, .ref (h 20), .ref (h 37), .int 0, .ref (h 38), .ref (h 42), .ref (h 43), .ref (h 44), .ref (h 45), .ref (h 46), .ref (h 47), .ref (h 48)])), ((h 1), .inr (8, [.ref (h 2), .int 0, .ref (h 3), .ref (h 4), .int 0, .ref (h 5), .int 0, .ref (h 6), .int 0, .ref (h 7), .int 0])), ((h 7), .inl ((cs 0), 4, .inr (.inr (.inr (.inr fn))))), ((h 8), .inr (0, [.ref (h 102), .ref (h 103), .int 0]))]) (w1 := []) hP hD [] [0, 1, 2, 3] rfl rfl (by decide) (by decide) hk1 hFc hP1 hD1
  generalize H1 = H at hP hS ⊢
  have hP : va_P D vwCl [((h 0), .inr (11, [.ref (h 1), .ref (h 9), .int 0, .int 0, .ref (h 20), .ref (h 37), .int 0, .ref (h 38), .ref (h 42), .ref (h 43), .ref (h 44), .ref (h 45), .ref (h 46), .ref (h 47), .ref (h 48)])), ((h 1), .inr (8, [.ref (h 2), .int 0, .ref (h 3), .ref (h 4), .int 0, .ref (h 5), .int 0, .ref (h 6), .int 0, .ref (h 7), .int 0])), ((h 7), .inl ((cs 0), 4, .inr (.inr (.inr (.inr fn))))), ((h 8), .inr (0, [.ref (h 102), .ref (h 103), .int 0]))] H := hP
  have hD : va_D A [((h 0), .inr (11, [.ref (h 1), .ref (h 9), .int 0, .int 0, .ref (h 20), .ref (h 37), .int 0, .ref (h 38), .ref (h 42), .ref (h 43), .ref (h 44), .ref (h 45), .ref (h 46), .ref (h 47), .ref (h 48)])), ((h 1), .inr (8, [.ref (h 2), .int 0, .ref (h 3), .ref (h 4), .int 0, .ref (h 5), .int 0, .ref (h 6), .int 0, .ref (h 7), .int 0])), ((h 7), .inl ((cs 0), 4, .inr (.inr (.inr (.inr fn))))), ((h 8), .inr (0, [.ref (h 102), .ref (h 103), .int 0]))] := hD
  refine W.widen (k := 1) (n := 6) (Nat.le_of_ble_eq_true rfl) (Nat.le_of_ble_eq_true rfl) ?_
  simp only [Int32.reduceToInt] at hw_1
  refine lv_aload_n hx hb dX11_stepAt_5 rfl (lv_at hl 0 rfl) ?_
  refine va_get (D := D) (ci := 11) (v := .ref (h 1)) (C := RX11) (T := TX11) (N := 15) hx hb ht zinX11 hown hK hP 0 rfl rfl 0 (by decide) (ht _ zw_353) (fun _ h9 => h9) rfl dX11_stepAt_6 ?_
  refine va_get (D := D) (ci := 8) (v := .ref (h 7)) (C := RX8) (T := TX8) (N := 11) hx hb ht zinX8 hown hK hP 1 rfl rfl 9 (by decide) (ht _ zw_452) (fun _ h9 => h9) rfl dX11_stepAt_9 ?_
  refine lv_iload_n hx hb dX11_stepAt_12 rfl (lv_at hl 1 rfl) ?_
  refine va_aldq hx hb hK hP 2 0 rfl rfl (vp_in_iff.mpr ⟨hw_1.1, by have hq := hw_1.2; omega⟩) dX11_stepAt_13 ?_
  refine W.eq (g2 := F0 m 14 ls (.ref (h 8) :: [])) (by show F0 m _ ls (va_rf (fn p0.toNatClampNeg) :: _) = _; rw [hn _ (by exact zcl4 (by omega) (by omega))]; rfl) ?_
  refine lv_astore (lv' := [(4, .ref (h 8)), (0, .ref (h 0)), (1, .int p0), (2, .int p1), (3, .int p2)]) hx hb dX11_stepAt_14 hl (by decide) rfl (fun ls hl => ?_)
  refine lv_iload_n hx hb dX11_stepAt_16 rfl (lv_at hl 3 rfl) ?_
  refine lv_aload hx hb dX11_stepAt_17 (lv_at hl 0 rfl) ?_
  refine va_get (D := D) (ci := 0) (v := .int 0) (C := RX0) (T := TX0) (N := 3) hx hb ht zinX0 hown hK hP 3 rfl rfl 2 (by decide) (ht _ zw_453) (fun _ h9 => h9) rfl dX11_stepAt_19 ?_
  have hPc := hP.sub (ws' := []) [] rfl
  have hDc := hD.sub (ws' := []) [] (by decide) rfl
  have hKc := hK.sub (tys' := []) [] rfl
  have hFc := va_free (wc := []) hD hS hA [] rfl
  refine vx_callv (vx_runS (As := [.int p1, .int 0]) (rest := []) ⟨hx, hb, hml, hown, ht⟩ (k_X11_checkIndex l hl0 _ D p1 0) (va_cwS 2 ht (zG_S zw_402 zw_403 zw_404 zw_405) rfl rfl rfl (by decide +kernel) ⟨Nat.le_of_ble_eq_true rfl, Nat.le_of_ble_eq_true rfl⟩) (zW_S hEx hS hFc hPc hKc hDc) rfl rfl hl.1 rfl (lv_room (Nat.le_of_ble_eq_true rfl)) dX11_stepAt_22 ⟨Nat.le_of_ble_eq_true rfl, Nat.le_of_ble_eq_true rfl⟩) hS (fun q _ h => hFc q h) hFc (fun q _ h => hFc q h) (fun E ce q9 uu t H1 locs1 ht0 hvm hpx hB hz1 hk1 hS hcell hv hcl => ?_) (fun u_3 t H1 locs ht0 hvm hw_3 hB hz1 hk1 hS => ?_)
  · exact vx_out (fun x hx => (hexc x hx).elim) hlocks hcell hv hcl (fun t2 h2 hv2 => ⟨(), trivial, (by obtain ⟨hE, hb9⟩ := hB; (try simp only [Int32.reduceToInt] at hb9); exact ⟨hE, (show zS_stepAt p0 p1 p2 1 0 from ⟨rfl, by trivial⟩)⟩), hS.F h2⟩) hS.2.2 (Nat.le_of_ble_eq_true rfl) (Nat.le_of_ble_eq_true rfl)
  obtain ⟨hP1, hK1, hD1⟩ := hB
  rw [ht0] at hP1
  have hK1 := va_K.moved hvm.symm hK1
  obtain ⟨hP, hD⟩ := va_join (wr := [((h 0), .inr (11, [.ref (h 1), .ref (h 9), .int 0, .int 0, .ref (h 20), .ref (h 37), .int 0, .ref (h 38), .ref (h 42), .ref (h 43), .ref (h 44), .ref (h 45), .ref (h 46), .ref (h 47), .ref (h 48)])), ((h 1), .inr (8, [.ref (h 2), .int 0, .ref (h 3), .ref (h 4), .int 0, .ref (h 5), .int 0, .ref (h 6), .int 0, .ref (h 7), .int 0])), ((h 7), .inl ((cs 0), 4, .inr (.inr (.inr (.inr fn))))), ((h 8), .inr (0, [.ref (h 102), .ref (h 103), .int 0]))]) (w1 := []) hP hD [] [0, 1, 2, 3] rfl rfl (by decide) (by decide) hk1 hFc hP1 hD1
  generalize H1 = H at hP hS ⊢
  have hP : va_P D vwCl [((h 0), .inr (11, [.ref (h 1), .ref (h 9), .int 0, .int 0, .ref (h 20), .ref (h 37), .int 0, .ref (h 38), .ref (h 42), .ref (h 43), .ref (h 44), .ref (h 45), .ref (h 46), .ref (h 47), .ref (h 48)])), ((h 1), .inr (8, [.ref (h 2), .int 0, .ref (h 3), .ref (h 4), .int 0, .ref (h 5), .int 0, .ref (h 6), .int 0, .ref (h 7), .int 0])), ((h 7), .inl ((cs 0), 4, .inr (.inr (.inr (.inr fn))))), ((h 8), .inr (0, [.ref (h 102), .ref (h 103), .int 0]))] H := hP
  have hD : va_D A [((h 0), .inr (11, [.ref (h 1), .ref (h 9), .int 0, .int 0, .ref (h 20), .ref (h 37), .int 0, .ref (h 38), .ref (h 42), .ref (h 43), .ref (h 44), .ref (h 45), .ref (h 46), .ref (h 47), .ref (h 48)])), ((h 1), .inr (8, [.ref (h 2), .int 0, .ref (h 3), .ref (h 4), .int 0, .ref (h 5), .int 0, .ref (h 6), .int 0, .ref (h 7), .int 0])), ((h 7), .inl ((cs 0), 4, .inr (.inr (.inr (.inr fn))))), ((h 8), .inr (0, [.ref (h 102), .ref (h 103), .int 0]))] := hD
  refine W.widen (k := 2) (n := 12) (Nat.le_of_ble_eq_true rfl) (Nat.le_of_ble_eq_true rfl) ?_
  simp only [Int32.reduceToInt] at hw_3
  exfalso; omega
set_option maxHeartbeats 4000000 in
set_option maxRecDepth 100000 in
theorem k_X11_wrong (l : Launch) (hl0 : l.stackTraces = false) (sz : Nat) (D : va_G) (h cs : Nat → Nat) (p0 : Int32) (fn : Nat → Option Nat) (hn : ∀ k : Nat, k < 4 → fn k = some (h 8)) : vx_Met l yX11_wrong (.code yX11_wrong cX11_wrong 2 (some .int) :: zT) ({ frames := 7, cells := 1, slots := 6, locals := 111 }) (va_Pc [.ref (h 0), .int p0] (zW D [((h 0), .inr (11, [.ref (h 1), .ref (h 9), .int 0, .int 0, .ref (h 20), .ref (h 37), .int 0, .ref (h 38), .ref (h 42), .ref (h 43), .ref (h 44), .ref (h 45), .ref (h 46), .ref (h 47), .ref (h 48)])), ((h 1), .inr (8, [.ref (h 2), .int 0, .ref (h 3), .ref (h 4), .int 0, .ref (h 5), .int 0, .ref (h 6), .int 0, .ref (h 7), .int 0])), ((h 7), .inl ((cs 0), 4, .inr (.inr (.inr (.inr fn))))), ((h 8), .inr (0, [.ref (h 102), .ref (h 103), .int 0])), ((h 46), .inr (1, [.ref (h 84), .ref (h 85), .ref (h 86), .ref (h 87), .int 0, .int 0, .int (-1), .int 0, .int (-1), .int (-1), .int 0]))] [((cs 0), .object RX0)] sz)) (va_Qi (fun (r : Int32) (_ : Unit) => zS_wrong p0 0 r) (fun _ t => zE D [] [] (va_A [((h 0), .inr (11, [.ref (h 1), .ref (h 9), .int 0, .int 0, .ref (h 20), .ref (h 37), .int 0, .ref (h 38), .ref (h 42), .ref (h 43), .ref (h 44), .ref (h 45), .ref (h 46), .ref (h 47), .ref (h 48)])), ((h 1), .inr (8, [.ref (h 2), .int 0, .ref (h 3), .ref (h 4), .int 0, .ref (h 5), .int 0, .ref (h 6), .int 0, .ref (h 7), .int 0])), ((h 7), .inl ((cs 0), 4, .inr (.inr (.inr (.inr fn))))), ((h 8), .inr (0, [.ref (h 102), .ref (h 103), .int 0])), ((h 46), .inr (1, [.ref (h 84), .ref (h 85), .ref (h 86), .ref (h 87), .int 0, .int 0, .int (-1), .int 0, .int (-1), .int (-1), .int 0]))] sz) t) (va_A [((h 0), .inr (11, [.ref (h 1), .ref (h 9), .int 0, .int 0, .ref (h 20), .ref (h 37), .int 0, .ref (h 38), .ref (h 42), .ref (h 43), .ref (h 44), .ref (h 45), .ref (h 46), .ref (h 47), .ref (h 48)])), ((h 1), .inr (8, [.ref (h 2), .int 0, .ref (h 3), .ref (h 4), .int 0, .ref (h 5), .int 0, .ref (h 6), .int 0, .ref (h 7), .int 0])), ((h 7), .inl ((cs 0), 4, .inr (.inr (.inr (.inr fn))))), ((h 8), .inr (0, [.ref (h 102), .ref (h 103), .int 0])), ((h 46), .inr (1, [.ref (h 84), .ref (h 85), .ref (h 86), .ref (h 87), .int 0, .int 0, .int (-1), .int 0, .int (-1), .int (-1), .int 0]))] sz)) (vx_X (fun _ : Unit => True) (fun E _ _ => (E = "java/lang/IndexOutOfBoundsException" ∧ zS_wrong p0 1 0)) (va_A [((h 0), .inr (11, [.ref (h 1), .ref (h 9), .int 0, .int 0, .ref (h 20), .ref (h 37), .int 0, .ref (h 38), .ref (h 42), .ref (h 43), .ref (h 44), .ref (h 45), .ref (h 46), .ref (h 47), .ref (h 48)])), ((h 1), .inr (8, [.ref (h 2), .int 0, .ref (h 3), .ref (h 4), .int 0, .ref (h 5), .int 0, .ref (h 6), .int 0, .ref (h 7), .int 0])), ((h 7), .inl ((cs 0), 4, .inr (.inr (.inr (.inr fn))))), ((h 8), .inr (0, [.ref (h 102), .ref (h 103), .int 0])), ((h 46), .inr (1, [.ref (h 84), .ref (h 85), .ref (h 86), .ref (h 87), .int 0, .int 0, .int (-1), .int 0, .int (-1), .int (-1), .int 0]))] sz)) 1 6 (va_A [((h 0), .inr (11, [.ref (h 1), .ref (h 9), .int 0, .int 0, .ref (h 20), .ref (h 37), .int 0, .ref (h 38), .ref (h 42), .ref (h 43), .ref (h 44), .ref (h 45), .ref (h 46), .ref (h 47), .ref (h 48)])), ((h 1), .inr (8, [.ref (h 2), .int 0, .ref (h 3), .ref (h 4), .int 0, .ref (h 5), .int 0, .ref (h 6), .int 0, .ref (h 7), .int 0])), ((h 7), .inl ((cs 0), 4, .inr (.inr (.inr (.inr fn))))), ((h 8), .inr (0, [.ref (h 102), .ref (h 103), .int 0])), ((h 46), .inr (1, [.ref (h 84), .ref (h 85), .ref (h 86), .ref (h 87), .int 0, .int 0, .int (-1), .int 0, .int (-1), .int (-1), .int 0]))] sz) := by
  refine vx_ofW (cc := cX11_wrong) (maxL := 2) (ret := (some .int)) (by decide) rfl ?_
  intro p e s m args below meth c s₁ B hml hexc hv
  obtain ⟨rfl, hEx, hsz, hP, hK, hD0⟩ := hv
  have hx := B.exec
  have hb := B.bytes
  have hr := B.returns
  have hts := atoms_spec (ws := (.code yX11_wrong cX11_wrong 2 (some .int) :: zT)) B.pre
  have ht : ∀ w ∈ zT, w.before _ s = true := fun w h => hts w (List.mem_cons_of_mem _ h)
  have hown : s.vm.findClass RX11 = some m.cls := findClass_of_methodNamed B.named
  have hlocks := B.notSynchronized
  subst hsz
  have hD := hD0.self (sz := s.heap.size)
  generalize hAe : va_A [((h 0), .inr (11, [.ref (h 1), .ref (h 9), .int 0, .int 0, .ref (h 20), .ref (h 37), .int 0, .ref (h 38), .ref (h 42), .ref (h 43), .ref (h 44), .ref (h 45), .ref (h 46), .ref (h 47), .ref (h 48)])), ((h 1), .inr (8, [.ref (h 2), .int 0, .ref (h 3), .ref (h 4), .int 0, .ref (h 5), .int 0, .ref (h 6), .int 0, .ref (h 7), .int 0])), ((h 7), .inl ((cs 0), 4, .inr (.inr (.inr (.inr fn))))), ((h 8), .inr (0, [.ref (h 102), .ref (h 103), .int 0])), ((h 46), .inr (1, [.ref (h 84), .ref (h 85), .ref (h 86), .ref (h 87), .int 0, .int 0, .int (-1), .int 0, .int (-1), .int (-1), .int 0]))] s.heap.size = A at hD hEx ⊢
  have hA : ∀ q : Nat, s.heap.size ≤ q → A q := fun q h => by rw [← hAe]; exact Or.inr h
  have hS : va_S A s.heap s.heap [] := va_S.rf
  have hP : va_P D vwCl [((h 0), .inr (11, [.ref (h 1), .ref (h 9), .int 0, .int 0, .ref (h 20), .ref (h 37), .int 0, .ref (h 38), .ref (h 42), .ref (h 43), .ref (h 44), .ref (h 45), .ref (h 46), .ref (h 47), .ref (h 48)])), ((h 1), .inr (8, [.ref (h 2), .int 0, .ref (h 3), .ref (h 4), .int 0, .ref (h 5), .int 0, .ref (h 6), .int 0, .ref (h 7), .int 0])), ((h 7), .inl ((cs 0), 4, .inr (.inr (.inr (.inr fn))))), ((h 8), .inr (0, [.ref (h 102), .ref (h 103), .int 0])), ((h 46), .inr (1, [.ref (h 84), .ref (h 85), .ref (h 86), .ref (h 87), .int 0, .int 0, .int (-1), .int 0, .int (-1), .int (-1), .int 0]))] s.heap := hP
  have hl := lv_entry ([.ref (h 0), .int p0]) (n := 2) (Nat.le_of_ble_eq_true rfl)
  rw [lg_entry_eq]
  generalize (lg_sl ([.ref (h 0), .int p0]) ++ List.replicate (2 - (lg_sl ([.ref (h 0), .int p0])).length) Slot.unset).toArray = ls at hl ⊢
  have hl : lv_has ls 2 [(0, .ref (h 0)), (1, .int p0)] := hl
  skip
  refine lv_iload_n hx hb dX11_wrong_0 rfl (lv_at hl 1 rfl) ?_
  refine lv_iconst (v := 4) hx hb dX11_wrong_1 (by decide) ?_
  have hPc := hP.sub (ws' := []) [] rfl
  have hDc := hD.sub (ws' := []) [] (by decide) rfl
  have hKc := hK.sub (tys' := []) [] rfl
  have hFc := va_free (wc := []) hD hS hA [] rfl
  refine vx_callv (vx_runS (As := [.int p0, .int 4]) (rest := []) ⟨hx, hb, hml, hown, ht⟩ (k_X11_checkIndex l hl0 _ D p0 4) (va_cwS 2 ht (zG_S zw_402 zw_403 zw_404 zw_405) rfl rfl rfl (by decide +kernel) ⟨Nat.le_of_ble_eq_true rfl, Nat.le_of_ble_eq_true rfl⟩) (zW_S hEx hS hFc hPc hKc hDc) rfl rfl hl.1 rfl (lv_room (Nat.le_of_ble_eq_true rfl)) dX11_wrong_2 ⟨Nat.le_of_ble_eq_true rfl, Nat.le_of_ble_eq_true rfl⟩) hS (fun q _ h => hFc q h) hFc (fun q _ h => hFc q h) (fun E ce q9 uu t H1 locs1 ht0 hvm hpx hB hz1 hk1 hS hcell hv hcl => ?_) (fun u_1 t H1 locs ht0 hvm hw_1 hB hz1 hk1 hS => ?_)
  · exact vx_out (fun x hx => (hexc x hx).elim) hlocks hcell hv hcl (fun t2 h2 hv2 => ⟨(), trivial, (by obtain ⟨hE, hb9⟩ := hB; (try simp only [Int32.reduceToInt] at hb9); exact ⟨hE, (show zS_wrong p0 1 0 from (.inl ⟨rfl, by omega⟩))⟩), hS.F h2⟩) hS.2.2 (Nat.le_of_ble_eq_true rfl) (Nat.le_of_ble_eq_true rfl)
  obtain ⟨hP1, hK1, hD1⟩ := hB
  rw [ht0] at hP1
  have hK1 := va_K.moved hvm.symm hK1
  obtain ⟨hP, hD⟩ := va_join (wr := [((h 0), .inr (11, [.ref (h 1), .ref (h 9), .int 0, .int 0, .ref (h 20), .ref (h 37), .int 0, .ref (h 38), .ref (h 42), .ref (h 43), .ref (h 44), .ref (h 45), .ref (h 46), .ref (h 47), .ref (h 48)])), ((h 1), .inr (8, [.ref (h 2), .int 0, .ref (h 3), .ref (h 4), .int 0, .ref (h 5), .int 0, .ref (h 6), .int 0, .ref (h 7), .int 0])), ((h 7), .inl ((cs 0), 4, .inr (.inr (.inr (.inr fn))))), ((h 8), .inr (0, [.ref (h 102), .ref (h 103), .int 0])), ((h 46), .inr (1, [.ref (h 84), .ref (h 85), .ref (h 86), .ref (h 87), .int 0, .int 0, .int (-1), .int 0, .int (-1), .int (-1), .int 0]))]) (w1 := []) hP hD [] [0, 1, 2, 3, 4] rfl rfl (by decide) (by decide) hk1 hFc hP1 hD1
  generalize H1 = H at hP hS ⊢
  have hP : va_P D vwCl [((h 0), .inr (11, [.ref (h 1), .ref (h 9), .int 0, .int 0, .ref (h 20), .ref (h 37), .int 0, .ref (h 38), .ref (h 42), .ref (h 43), .ref (h 44), .ref (h 45), .ref (h 46), .ref (h 47), .ref (h 48)])), ((h 1), .inr (8, [.ref (h 2), .int 0, .ref (h 3), .ref (h 4), .int 0, .ref (h 5), .int 0, .ref (h 6), .int 0, .ref (h 7), .int 0])), ((h 7), .inl ((cs 0), 4, .inr (.inr (.inr (.inr fn))))), ((h 8), .inr (0, [.ref (h 102), .ref (h 103), .int 0])), ((h 46), .inr (1, [.ref (h 84), .ref (h 85), .ref (h 86), .ref (h 87), .int 0, .int 0, .int (-1), .int 0, .int (-1), .int (-1), .int 0]))] H := hP
  have hD : va_D A [((h 0), .inr (11, [.ref (h 1), .ref (h 9), .int 0, .int 0, .ref (h 20), .ref (h 37), .int 0, .ref (h 38), .ref (h 42), .ref (h 43), .ref (h 44), .ref (h 45), .ref (h 46), .ref (h 47), .ref (h 48)])), ((h 1), .inr (8, [.ref (h 2), .int 0, .ref (h 3), .ref (h 4), .int 0, .ref (h 5), .int 0, .ref (h 6), .int 0, .ref (h 7), .int 0])), ((h 7), .inl ((cs 0), 4, .inr (.inr (.inr (.inr fn))))), ((h 8), .inr (0, [.ref (h 102), .ref (h 103), .int 0])), ((h 46), .inr (1, [.ref (h 84), .ref (h 85), .ref (h 86), .ref (h 87), .int 0, .int 0, .int (-1), .int 0, .int (-1), .int (-1), .int 0]))] := hD
  refine W.widen (k := 1) (n := 6) (Nat.le_of_ble_eq_true rfl) (Nat.le_of_ble_eq_true rfl) ?_
  simp only [Int32.reduceToInt] at hw_1
  refine lv_aload_n hx hb dX11_wrong_5 rfl (lv_at hl 0 rfl) ?_
  refine va_get (D := D) (ci := 11) (v := .ref (h 46)) (C := RX11) (T := TX11) (N := 15) hx hb ht zinX11 hown hK hP 0 rfl rfl 12 (by decide) (ht _ zw_378) (fun _ h9 => h9) rfl dX11_wrong_6 ?_
  refine lv_aload_n hx hb dX11_wrong_9 rfl (lv_at hl 0 rfl) ?_
  refine va_get (D := D) (ci := 11) (v := .ref (h 1)) (C := RX11) (T := TX11) (N := 15) hx hb ht zinX11 hown hK hP 0 rfl rfl 0 (by decide) (ht _ zw_353) (fun _ h9 => h9) rfl dX11_wrong_10 ?_
  refine lv_aload_n hx hb dX11_wrong_13 rfl (lv_at hl 0 rfl) ?_
  refine va_get (D := D) (ci := 11) (v := .ref (h 1)) (C := RX11) (T := TX11) (N := 15) hx hb ht zinX11 hown hK hP 0 rfl rfl 0 (by decide) (ht _ zw_353) (fun _ h9 => h9) rfl dX11_wrong_14 ?_
  refine va_get (D := D) (ci := 8) (v := .ref (h 7)) (C := RX8) (T := TX8) (N := 11) hx hb ht zinX8 hown hK hP 1 rfl rfl 9 (by decide) (ht _ zw_452) (fun _ h9 => h9) rfl dX11_wrong_17 ?_
  refine lv_iload_n hx hb dX11_wrong_20 rfl (lv_at hl 1 rfl) ?_
  refine va_aldq hx hb hK hP 2 0 rfl rfl (vp_in_iff.mpr ⟨hw_1.1, by have hq := hw_1.2; omega⟩) dX11_wrong_21 ?_
  refine W.eq (g2 := F0 m 22 ls (.ref (h 8) :: .ref (h 1) :: .ref (h 46) :: [])) (by show F0 m _ ls (va_rf (fn p0.toNatClampNeg) :: _) = _; rw [hn _ (by exact zcl4 (by omega) (by omega))]; rfl) ?_
  refine lv_aload_n hx hb dX11_wrong_22 rfl (lv_at hl 0 rfl) ?_
  refine va_get (D := D) (ci := 11) (v := .ref (h 1)) (C := RX11) (T := TX11) (N := 15) hx hb ht zinX11 hown hK hP 0 rfl rfl 0 (by decide) (ht _ zw_353) (fun _ h9 => h9) rfl dX11_wrong_23 ?_
  refine vp_callSi (va_runV (As := []) (rest := [.ref (h 8), .ref (h 1), .ref (h 46)]) ⟨hx, hb, hml, hown, ht⟩ (k_X8_allOpen l D h cs) (cwV 0 ht (zG_V zw_433 zw_434 zw_435 zw_334 zw_436) rfl rfl rfl (by decide +kernel) ⟨Nat.le_of_ble_eq_true rfl, Nat.le_of_ble_eq_true rfl⟩) (zR_V (va_recv hK hP (ci := 8) (q0 := 1) rfl rfl) (hP.sub (ws' := [((h 1), .inr (8, [.ref (h 2), .int 0, .ref (h 3), .ref (h 4), .int 0, .ref (h 5), .int 0, .ref (h 6), .int 0, .ref (h 7), .int 0]))]) [1] rfl) (hK.sub (tys' := []) [] rfl)) rfl rfl hl.1 rfl (lv_room (Nat.le_of_ble_eq_true rfl)) dX11_wrong_26 ⟨Nat.le_of_ble_eq_true rfl, Nat.le_of_ble_eq_true rfl⟩).run (fun r_3 hw_3 => ?_)
  obtain rfl : r_3 = 0 := hw_3
  have hPc := hP.sub (ws' := [((h 46), .inr (1, [.ref (h 84), .ref (h 85), .ref (h 86), .ref (h 87), .int 0, .int 0, .int (-1), .int 0, .int (-1), .int (-1), .int 0])), ((h 8), .inr (0, [.ref (h 102), .ref (h 103), .int 0]))]) [4, 3] rfl
  have hDc := hD.sub (ws' := [((h 46), .inr (1, [.ref (h 84), .ref (h 85), .ref (h 86), .ref (h 87), .int 0, .int 0, .int (-1), .int 0, .int (-1), .int (-1), .int 0])), ((h 8), .inr (0, [.ref (h 102), .ref (h 103), .int 0]))]) [4, 3] (by decide) rfl
  have hKc := hK.sub (tys' := []) [] rfl
  have hFc := va_free (wc := [((h 46), .inr (1, [.ref (h 84), .ref (h 85), .ref (h 86), .ref (h 87), .int 0, .int 0, .int (-1), .int 0, .int (-1), .int (-1), .int 0])), ((h 8), .inr (0, [.ref (h 102), .ref (h 103), .int 0]))]) hD hS hA [4, 3] rfl
  refine va_callv (va_runV (As := [.ref (h 1), .ref (h 8), .int 0]) (rest := []) ⟨hx, hb, hml, hown, ht⟩ (k_X1_judge l _ D h cs 0) (cwV 3 ht (zG_V zw_458 zw_459 zw_460 zw_375 zw_461) rfl rfl rfl (by decide +kernel) ⟨Nat.le_of_ble_eq_true rfl, Nat.le_of_ble_eq_true rfl⟩) (zM_V (va_recv hK hP (ci := 1) (q0 := 4) rfl rfl) hPc hKc hDc) rfl rfl hl.1 rfl (lv_room (Nat.le_of_ble_eq_true rfl)) dX11_wrong_29 ⟨Nat.le_of_ble_eq_true rfl, Nat.le_of_ble_eq_true rfl⟩) hS (fun q _ h => hFc q h) hFc (fun u_4 t H1 locs ht0 hvm hw_4 hB hz1 hk1 hS => ?_)
  obtain ⟨hP1, hK1, hD1⟩ := hB
  rw [ht0] at hP1
  have hK1 := va_K.moved hvm.symm hK1
  obtain ⟨hP, hD⟩ := va_join (wr := [((h 0), .inr (11, [.ref (h 1), .ref (h 9), .int 0, .int 0, .ref (h 20), .ref (h 37), .int 0, .ref (h 38), .ref (h 42), .ref (h 43), .ref (h 44), .ref (h 45), .ref (h 46), .ref (h 47), .ref (h 48)])), ((h 1), .inr (8, [.ref (h 2), .int 0, .ref (h 3), .ref (h 4), .int 0, .ref (h 5), .int 0, .ref (h 6), .int 0, .ref (h 7), .int 0])), ((h 7), .inl ((cs 0), 4, .inr (.inr (.inr (.inr fn)))))]) (w1 := [((h 46), .inr (1, [.ref (h 84), .ref (h 85), .ref (h 86), .ref (h 87), .int 0, .int 0, .int (-1), .int 0, .int (-1), .int (-1), .int 0])), ((h 8), .inr (0, [.ref (h 102), .ref (h 103), .int 0]))]) hP hD [4, 3] [0, 1, 2] rfl rfl (by decide) (by decide) hk1 hFc hP1 hD1
  generalize H1 = H at hP hS ⊢
  have hP : va_P D vwCl [((h 0), .inr (11, [.ref (h 1), .ref (h 9), .int 0, .int 0, .ref (h 20), .ref (h 37), .int 0, .ref (h 38), .ref (h 42), .ref (h 43), .ref (h 44), .ref (h 45), .ref (h 46), .ref (h 47), .ref (h 48)])), ((h 1), .inr (8, [.ref (h 2), .int 0, .ref (h 3), .ref (h 4), .int 0, .ref (h 5), .int 0, .ref (h 6), .int 0, .ref (h 7), .int 0])), ((h 7), .inl ((cs 0), 4, .inr (.inr (.inr (.inr fn))))), ((h 46), .inr (1, [.ref (h 84), .ref (h 85), .ref (h 86), .ref (h 87), .int 0, .int 0, .int (-1), .int 0, .int (-1), .int (-1), .int 0])), ((h 8), .inr (0, [.ref (h 102), .ref (h 103), .int 0]))] H := hP
  have hD : va_D A [((h 0), .inr (11, [.ref (h 1), .ref (h 9), .int 0, .int 0, .ref (h 20), .ref (h 37), .int 0, .ref (h 38), .ref (h 42), .ref (h 43), .ref (h 44), .ref (h 45), .ref (h 46), .ref (h 47), .ref (h 48)])), ((h 1), .inr (8, [.ref (h 2), .int 0, .ref (h 3), .ref (h 4), .int 0, .ref (h 5), .int 0, .ref (h 6), .int 0, .ref (h 7), .int 0])), ((h 7), .inl ((cs 0), 4, .inr (.inr (.inr (.inr fn))))), ((h 46), .inr (1, [.ref (h 84), .ref (h 85), .ref (h 86), .ref (h 87), .int 0, .int 0, .int (-1), .int 0, .int (-1), .int (-1), .int 0])), ((h 8), .inr (0, [.ref (h 102), .ref (h 103), .int 0]))] := hD
  refine lv_aload_n hx hb dX11_wrong_32 rfl (lv_at hl 0 rfl) ?_
  refine va_get (D := D) (ci := 11) (v := .ref (h 46)) (C := RX11) (T := TX11) (N := 15) hx hb ht zinX11 hown hK hP 0 rfl rfl 12 (by decide) (ht _ zw_378) (fun _ h9 => h9) rfl dX11_wrong_33 ?_
  refine va_get (D := D) (ci := 1) (v := .int (-1)) (C := RX1) (T := TX1) (N := 11) hx hb ht zinX1 hown hK hP 3 rfl rfl 8 (by decide) (ht _ zw_462) (fun _ h9 => h9) rfl dX11_wrong_36 ?_
  have hP9 := hP.sub (ws' := []) [] rfl
  have hD9 := hD.sub (ws' := []) [] (by decide) rfl
  have hK9 := hK.sub (tys' := []) [] rfl
  refine W.widen (k := 1) (n := 6) (Nat.le_of_ble_eq_true rfl) (Nat.le_of_ble_eq_true rfl) ?_
  refine vx_ret ?_
  exact W.iret (v := (-1)) hx hb hr (fun t ht0 hW => ⟨⟨(-1), (), rfl, (show zS_wrong p0 0 (-1) from (.inr ⟨rfl, by omega, rfl⟩)), (zE_of hP9 hK9 hD9 ht0 hW)⟩, hS.F ht0⟩) hS.2.2 dX11_wrong_39
set_option maxHeartbeats 4000000 in
set_option maxRecDepth 100000 in
theorem k_X11_relation (l : Launch) (hl0 : l.stackTraces = false) (sz : Nat) (D : va_G) (h cs : Nat → Nat) (p0 : Int32) (fn : Nat → Option Nat) (hn : ∀ k : Nat, k < 4 → fn k = some (h 8)) : vx_Met l yX11_relation (.code yX11_relation cX11_relation 2 (some .int) :: zT) ({ frames := 7, cells := 1, slots := 6, locals := 111 }) (va_Pc [.ref (h 0), .int p0] (zW D [((h 0), .inr (11, [.ref (h 1), .ref (h 9), .int 0, .int 0, .ref (h 20), .ref (h 37), .int 0, .ref (h 38), .ref (h 42), .ref (h 43), .ref (h 44), .ref (h 45), .ref (h 46), .ref (h 47), .ref (h 48)])), ((h 1), .inr (8, [.ref (h 2), .int 0, .ref (h 3), .ref (h 4), .int 0, .ref (h 5), .int 0, .ref (h 6), .int 0, .ref (h 7), .int 0])), ((h 7), .inl ((cs 0), 4, .inr (.inr (.inr (.inr fn))))), ((h 8), .inr (0, [.ref (h 102), .ref (h 103), .int 0])), ((h 46), .inr (1, [.ref (h 84), .ref (h 85), .ref (h 86), .ref (h 87), .int 0, .int 0, .int (-1), .int 0, .int (-1), .int (-1), .int 0]))] [((cs 0), .object RX0)] sz)) (va_Qi (fun (r : Int32) (_ : Unit) => zS_relation p0 0 r) (fun _ t => zE D [] [] (va_A [((h 0), .inr (11, [.ref (h 1), .ref (h 9), .int 0, .int 0, .ref (h 20), .ref (h 37), .int 0, .ref (h 38), .ref (h 42), .ref (h 43), .ref (h 44), .ref (h 45), .ref (h 46), .ref (h 47), .ref (h 48)])), ((h 1), .inr (8, [.ref (h 2), .int 0, .ref (h 3), .ref (h 4), .int 0, .ref (h 5), .int 0, .ref (h 6), .int 0, .ref (h 7), .int 0])), ((h 7), .inl ((cs 0), 4, .inr (.inr (.inr (.inr fn))))), ((h 8), .inr (0, [.ref (h 102), .ref (h 103), .int 0])), ((h 46), .inr (1, [.ref (h 84), .ref (h 85), .ref (h 86), .ref (h 87), .int 0, .int 0, .int (-1), .int 0, .int (-1), .int (-1), .int 0]))] sz) t) (va_A [((h 0), .inr (11, [.ref (h 1), .ref (h 9), .int 0, .int 0, .ref (h 20), .ref (h 37), .int 0, .ref (h 38), .ref (h 42), .ref (h 43), .ref (h 44), .ref (h 45), .ref (h 46), .ref (h 47), .ref (h 48)])), ((h 1), .inr (8, [.ref (h 2), .int 0, .ref (h 3), .ref (h 4), .int 0, .ref (h 5), .int 0, .ref (h 6), .int 0, .ref (h 7), .int 0])), ((h 7), .inl ((cs 0), 4, .inr (.inr (.inr (.inr fn))))), ((h 8), .inr (0, [.ref (h 102), .ref (h 103), .int 0])), ((h 46), .inr (1, [.ref (h 84), .ref (h 85), .ref (h 86), .ref (h 87), .int 0, .int 0, .int (-1), .int 0, .int (-1), .int (-1), .int 0]))] sz)) (vx_X (fun _ : Unit => True) (fun E _ _ => (E = "java/lang/IndexOutOfBoundsException" ∧ zS_relation p0 1 0)) (va_A [((h 0), .inr (11, [.ref (h 1), .ref (h 9), .int 0, .int 0, .ref (h 20), .ref (h 37), .int 0, .ref (h 38), .ref (h 42), .ref (h 43), .ref (h 44), .ref (h 45), .ref (h 46), .ref (h 47), .ref (h 48)])), ((h 1), .inr (8, [.ref (h 2), .int 0, .ref (h 3), .ref (h 4), .int 0, .ref (h 5), .int 0, .ref (h 6), .int 0, .ref (h 7), .int 0])), ((h 7), .inl ((cs 0), 4, .inr (.inr (.inr (.inr fn))))), ((h 8), .inr (0, [.ref (h 102), .ref (h 103), .int 0])), ((h 46), .inr (1, [.ref (h 84), .ref (h 85), .ref (h 86), .ref (h 87), .int 0, .int 0, .int (-1), .int 0, .int (-1), .int (-1), .int 0]))] sz)) 1 6 (va_A [((h 0), .inr (11, [.ref (h 1), .ref (h 9), .int 0, .int 0, .ref (h 20), .ref (h 37), .int 0, .ref (h 38), .ref (h 42), .ref (h 43), .ref (h 44), .ref (h 45), .ref (h 46), .ref (h 47), .ref (h 48)])), ((h 1), .inr (8, [.ref (h 2), .int 0, .ref (h 3), .ref (h 4), .int 0, .ref (h 5), .int 0, .ref (h 6), .int 0, .ref (h 7), .int 0])), ((h 7), .inl ((cs 0), 4, .inr (.inr (.inr (.inr fn))))), ((h 8), .inr (0, [.ref (h 102), .ref (h 103), .int 0])), ((h 46), .inr (1, [.ref (h 84), .ref (h 85), .ref (h 86), .ref (h 87), .int 0, .int 0, .int (-1), .int 0, .int (-1), .int (-1), .int 0]))] sz) := by
  refine vx_ofW (cc := cX11_relation) (maxL := 2) (ret := (some .int)) (by decide) rfl ?_
  intro p e s m args below meth c s₁ B hml hexc hv
  obtain ⟨rfl, hEx, hsz, hP, hK, hD0⟩ := hv
  have hx := B.exec
  have hb := B.bytes
  have hr := B.returns
  have hts := atoms_spec (ws := (.code yX11_relation cX11_relation 2 (some .int) :: zT)) B.pre
  have ht : ∀ w ∈ zT, w.before _ s = true := fun w h => hts w (List.mem_cons_of_mem _ h)
  have hown : s.vm.findClass RX11 = some m.cls := findClass_of_methodNamed B.named
  have hlocks := B.notSynchronized
  subst hsz
  have hD := hD0.self (sz := s.heap.size)
  generalize hAe : va_A [((h 0), .inr (11, [.ref (h 1), .ref (h 9), .int 0, .int 0, .ref (h 20), .ref (h 37), .int 0, .ref (h 38), .ref (h 42), .ref (h 43), .ref (h 44), .ref (h 45), .ref (h 46), .ref (h 47), .ref (h 48)])), ((h 1), .inr (8, [.ref (h 2), .int 0, .ref (h 3), .ref (h 4), .int 0, .ref (h 5), .int 0, .ref (h 6), .int 0, .ref (h 7), .int 0])), ((h 7), .inl ((cs 0), 4, .inr (.inr (.inr (.inr fn))))), ((h 8), .inr (0, [.ref (h 102), .ref (h 103), .int 0])), ((h 46), .inr (1, [.ref (h 84), .ref (h 85), .ref (h 86), .ref (h 87), .int 0, .int 0, .int (-1), .int 0, .int (-1), .int (-1), .int 0]))] s.heap.size = A at hD hEx ⊢
  have hA : ∀ q : Nat, s.heap.size ≤ q → A q := fun q h => by rw [← hAe]; exact Or.inr h
  have hS : va_S A s.heap s.heap [] := va_S.rf
  have hP : va_P D vwCl [((h 0), .inr (11, [.ref (h 1), .ref (h 9), .int 0, .int 0, .ref (h 20), .ref (h 37), .int 0, .ref (h 38), .ref (h 42), .ref (h 43), .ref (h 44), .ref (h 45), .ref (h 46), .ref (h 47), .ref (h 48)])), ((h 1), .inr (8, [.ref (h 2), .int 0, .ref (h 3), .ref (h 4), .int 0, .ref (h 5), .int 0, .ref (h 6), .int 0, .ref (h 7), .int 0])), ((h 7), .inl ((cs 0), 4, .inr (.inr (.inr (.inr fn))))), ((h 8), .inr (0, [.ref (h 102), .ref (h 103), .int 0])), ((h 46), .inr (1, [.ref (h 84), .ref (h 85), .ref (h 86), .ref (h 87), .int 0, .int 0, .int (-1), .int 0, .int (-1), .int (-1), .int 0]))] s.heap := hP
  have hl := lv_entry ([.ref (h 0), .int p0]) (n := 2) (Nat.le_of_ble_eq_true rfl)
  rw [lg_entry_eq]
  generalize (lg_sl ([.ref (h 0), .int p0]) ++ List.replicate (2 - (lg_sl ([.ref (h 0), .int p0])).length) Slot.unset).toArray = ls at hl ⊢
  have hl : lv_has ls 2 [(0, .ref (h 0)), (1, .int p0)] := hl
  skip
  refine lv_iload_n hx hb dX11_relation_0 rfl (lv_at hl 1 rfl) ?_
  refine lv_iconst (v := 4) hx hb dX11_relation_1 (by decide) ?_
  have hPc := hP.sub (ws' := []) [] rfl
  have hDc := hD.sub (ws' := []) [] (by decide) rfl
  have hKc := hK.sub (tys' := []) [] rfl
  have hFc := va_free (wc := []) hD hS hA [] rfl
  refine vx_callv (vx_runS (As := [.int p0, .int 4]) (rest := []) ⟨hx, hb, hml, hown, ht⟩ (k_X11_checkIndex l hl0 _ D p0 4) (va_cwS 2 ht (zG_S zw_402 zw_403 zw_404 zw_405) rfl rfl rfl (by decide +kernel) ⟨Nat.le_of_ble_eq_true rfl, Nat.le_of_ble_eq_true rfl⟩) (zW_S hEx hS hFc hPc hKc hDc) rfl rfl hl.1 rfl (lv_room (Nat.le_of_ble_eq_true rfl)) dX11_relation_2 ⟨Nat.le_of_ble_eq_true rfl, Nat.le_of_ble_eq_true rfl⟩) hS (fun q _ h => hFc q h) hFc (fun q _ h => hFc q h) (fun E ce q9 uu t H1 locs1 ht0 hvm hpx hB hz1 hk1 hS hcell hv hcl => ?_) (fun u_1 t H1 locs ht0 hvm hw_1 hB hz1 hk1 hS => ?_)
  · exact vx_out (fun x hx => (hexc x hx).elim) hlocks hcell hv hcl (fun t2 h2 hv2 => ⟨(), trivial, (by obtain ⟨hE, hb9⟩ := hB; (try simp only [Int32.reduceToInt] at hb9); exact ⟨hE, (show zS_relation p0 1 0 from (.inl ⟨rfl, by omega⟩))⟩), hS.F h2⟩) hS.2.2 (Nat.le_of_ble_eq_true rfl) (Nat.le_of_ble_eq_true rfl)
  obtain ⟨hP1, hK1, hD1⟩ := hB
  rw [ht0] at hP1
  have hK1 := va_K.moved hvm.symm hK1
  obtain ⟨hP, hD⟩ := va_join (wr := [((h 0), .inr (11, [.ref (h 1), .ref (h 9), .int 0, .int 0, .ref (h 20), .ref (h 37), .int 0, .ref (h 38), .ref (h 42), .ref (h 43), .ref (h 44), .ref (h 45), .ref (h 46), .ref (h 47), .ref (h 48)])), ((h 1), .inr (8, [.ref (h 2), .int 0, .ref (h 3), .ref (h 4), .int 0, .ref (h 5), .int 0, .ref (h 6), .int 0, .ref (h 7), .int 0])), ((h 7), .inl ((cs 0), 4, .inr (.inr (.inr (.inr fn))))), ((h 8), .inr (0, [.ref (h 102), .ref (h 103), .int 0])), ((h 46), .inr (1, [.ref (h 84), .ref (h 85), .ref (h 86), .ref (h 87), .int 0, .int 0, .int (-1), .int 0, .int (-1), .int (-1), .int 0]))]) (w1 := []) hP hD [] [0, 1, 2, 3, 4] rfl rfl (by decide) (by decide) hk1 hFc hP1 hD1
  generalize H1 = H at hP hS ⊢
  have hP : va_P D vwCl [((h 0), .inr (11, [.ref (h 1), .ref (h 9), .int 0, .int 0, .ref (h 20), .ref (h 37), .int 0, .ref (h 38), .ref (h 42), .ref (h 43), .ref (h 44), .ref (h 45), .ref (h 46), .ref (h 47), .ref (h 48)])), ((h 1), .inr (8, [.ref (h 2), .int 0, .ref (h 3), .ref (h 4), .int 0, .ref (h 5), .int 0, .ref (h 6), .int 0, .ref (h 7), .int 0])), ((h 7), .inl ((cs 0), 4, .inr (.inr (.inr (.inr fn))))), ((h 8), .inr (0, [.ref (h 102), .ref (h 103), .int 0])), ((h 46), .inr (1, [.ref (h 84), .ref (h 85), .ref (h 86), .ref (h 87), .int 0, .int 0, .int (-1), .int 0, .int (-1), .int (-1), .int 0]))] H := hP
  have hD : va_D A [((h 0), .inr (11, [.ref (h 1), .ref (h 9), .int 0, .int 0, .ref (h 20), .ref (h 37), .int 0, .ref (h 38), .ref (h 42), .ref (h 43), .ref (h 44), .ref (h 45), .ref (h 46), .ref (h 47), .ref (h 48)])), ((h 1), .inr (8, [.ref (h 2), .int 0, .ref (h 3), .ref (h 4), .int 0, .ref (h 5), .int 0, .ref (h 6), .int 0, .ref (h 7), .int 0])), ((h 7), .inl ((cs 0), 4, .inr (.inr (.inr (.inr fn))))), ((h 8), .inr (0, [.ref (h 102), .ref (h 103), .int 0])), ((h 46), .inr (1, [.ref (h 84), .ref (h 85), .ref (h 86), .ref (h 87), .int 0, .int 0, .int (-1), .int 0, .int (-1), .int (-1), .int 0]))] := hD
  refine W.widen (k := 1) (n := 6) (Nat.le_of_ble_eq_true rfl) (Nat.le_of_ble_eq_true rfl) ?_
  simp only [Int32.reduceToInt] at hw_1
  refine lv_aload_n hx hb dX11_relation_5 rfl (lv_at hl 0 rfl) ?_
  refine va_get (D := D) (ci := 11) (v := .ref (h 46)) (C := RX11) (T := TX11) (N := 15) hx hb ht zinX11 hown hK hP 0 rfl rfl 12 (by decide) (ht _ zw_378) (fun _ h9 => h9) rfl dX11_relation_6 ?_
  refine lv_aload_n hx hb dX11_relation_9 rfl (lv_at hl 0 rfl) ?_
  refine va_get (D := D) (ci := 11) (v := .ref (h 1)) (C := RX11) (T := TX11) (N := 15) hx hb ht zinX11 hown hK hP 0 rfl rfl 0 (by decide) (ht _ zw_353) (fun _ h9 => h9) rfl dX11_relation_10 ?_
  refine lv_aload_n hx hb dX11_relation_13 rfl (lv_at hl 0 rfl) ?_
  refine va_get (D := D) (ci := 11) (v := .ref (h 1)) (C := RX11) (T := TX11) (N := 15) hx hb ht zinX11 hown hK hP 0 rfl rfl 0 (by decide) (ht _ zw_353) (fun _ h9 => h9) rfl dX11_relation_14 ?_
  refine va_get (D := D) (ci := 8) (v := .ref (h 7)) (C := RX8) (T := TX8) (N := 11) hx hb ht zinX8 hown hK hP 1 rfl rfl 9 (by decide) (ht _ zw_452) (fun _ h9 => h9) rfl dX11_relation_17 ?_
  refine lv_iload_n hx hb dX11_relation_20 rfl (lv_at hl 1 rfl) ?_
  refine va_aldq hx hb hK hP 2 0 rfl rfl (vp_in_iff.mpr ⟨hw_1.1, by have hq := hw_1.2; omega⟩) dX11_relation_21 ?_
  refine W.eq (g2 := F0 m 22 ls (.ref (h 8) :: .ref (h 1) :: .ref (h 46) :: [])) (by show F0 m _ ls (va_rf (fn p0.toNatClampNeg) :: _) = _; rw [hn _ (by exact zcl4 (by omega) (by omega))]; rfl) ?_
  refine lv_aload_n hx hb dX11_relation_22 rfl (lv_at hl 0 rfl) ?_
  refine va_get (D := D) (ci := 11) (v := .ref (h 1)) (C := RX11) (T := TX11) (N := 15) hx hb ht zinX11 hown hK hP 0 rfl rfl 0 (by decide) (ht _ zw_353) (fun _ h9 => h9) rfl dX11_relation_23 ?_
  refine vp_callSi (va_runV (As := []) (rest := [.ref (h 8), .ref (h 1), .ref (h 46)]) ⟨hx, hb, hml, hown, ht⟩ (k_X8_allOpen l D h cs) (cwV 0 ht (zG_V zw_433 zw_434 zw_435 zw_334 zw_436) rfl rfl rfl (by decide +kernel) ⟨Nat.le_of_ble_eq_true rfl, Nat.le_of_ble_eq_true rfl⟩) (zR_V (va_recv hK hP (ci := 8) (q0 := 1) rfl rfl) (hP.sub (ws' := [((h 1), .inr (8, [.ref (h 2), .int 0, .ref (h 3), .ref (h 4), .int 0, .ref (h 5), .int 0, .ref (h 6), .int 0, .ref (h 7), .int 0]))]) [1] rfl) (hK.sub (tys' := []) [] rfl)) rfl rfl hl.1 rfl (lv_room (Nat.le_of_ble_eq_true rfl)) dX11_relation_26 ⟨Nat.le_of_ble_eq_true rfl, Nat.le_of_ble_eq_true rfl⟩).run (fun r_3 hw_3 => ?_)
  obtain rfl : r_3 = 0 := hw_3
  have hPc := hP.sub (ws' := [((h 46), .inr (1, [.ref (h 84), .ref (h 85), .ref (h 86), .ref (h 87), .int 0, .int 0, .int (-1), .int 0, .int (-1), .int (-1), .int 0])), ((h 8), .inr (0, [.ref (h 102), .ref (h 103), .int 0]))]) [4, 3] rfl
  have hDc := hD.sub (ws' := [((h 46), .inr (1, [.ref (h 84), .ref (h 85), .ref (h 86), .ref (h 87), .int 0, .int 0, .int (-1), .int 0, .int (-1), .int (-1), .int 0])), ((h 8), .inr (0, [.ref (h 102), .ref (h 103), .int 0]))]) [4, 3] (by decide) rfl
  have hKc := hK.sub (tys' := []) [] rfl
  have hFc := va_free (wc := [((h 46), .inr (1, [.ref (h 84), .ref (h 85), .ref (h 86), .ref (h 87), .int 0, .int 0, .int (-1), .int 0, .int (-1), .int (-1), .int 0])), ((h 8), .inr (0, [.ref (h 102), .ref (h 103), .int 0]))]) hD hS hA [4, 3] rfl
  refine va_callv (va_runV (As := [.ref (h 1), .ref (h 8), .int 0]) (rest := []) ⟨hx, hb, hml, hown, ht⟩ (k_X1_judge l _ D h cs 0) (cwV 3 ht (zG_V zw_458 zw_459 zw_460 zw_375 zw_461) rfl rfl rfl (by decide +kernel) ⟨Nat.le_of_ble_eq_true rfl, Nat.le_of_ble_eq_true rfl⟩) (zM_V (va_recv hK hP (ci := 1) (q0 := 4) rfl rfl) hPc hKc hDc) rfl rfl hl.1 rfl (lv_room (Nat.le_of_ble_eq_true rfl)) dX11_relation_29 ⟨Nat.le_of_ble_eq_true rfl, Nat.le_of_ble_eq_true rfl⟩) hS (fun q _ h => hFc q h) hFc (fun u_4 t H1 locs ht0 hvm hw_4 hB hz1 hk1 hS => ?_)
  obtain ⟨hP1, hK1, hD1⟩ := hB
  rw [ht0] at hP1
  have hK1 := va_K.moved hvm.symm hK1
  obtain ⟨hP, hD⟩ := va_join (wr := [((h 0), .inr (11, [.ref (h 1), .ref (h 9), .int 0, .int 0, .ref (h 20), .ref (h 37), .int 0, .ref (h 38), .ref (h 42), .ref (h 43), .ref (h 44), .ref (h 45), .ref (h 46), .ref (h 47), .ref (h 48)])), ((h 1), .inr (8, [.ref (h 2), .int 0, .ref (h 3), .ref (h 4), .int 0, .ref (h 5), .int 0, .ref (h 6), .int 0, .ref (h 7), .int 0])), ((h 7), .inl ((cs 0), 4, .inr (.inr (.inr (.inr fn)))))]) (w1 := [((h 46), .inr (1, [.ref (h 84), .ref (h 85), .ref (h 86), .ref (h 87), .int 0, .int 0, .int (-1), .int 0, .int (-1), .int (-1), .int 0])), ((h 8), .inr (0, [.ref (h 102), .ref (h 103), .int 0]))]) hP hD [4, 3] [0, 1, 2] rfl rfl (by decide) (by decide) hk1 hFc hP1 hD1
  generalize H1 = H at hP hS ⊢
  have hP : va_P D vwCl [((h 0), .inr (11, [.ref (h 1), .ref (h 9), .int 0, .int 0, .ref (h 20), .ref (h 37), .int 0, .ref (h 38), .ref (h 42), .ref (h 43), .ref (h 44), .ref (h 45), .ref (h 46), .ref (h 47), .ref (h 48)])), ((h 1), .inr (8, [.ref (h 2), .int 0, .ref (h 3), .ref (h 4), .int 0, .ref (h 5), .int 0, .ref (h 6), .int 0, .ref (h 7), .int 0])), ((h 7), .inl ((cs 0), 4, .inr (.inr (.inr (.inr fn))))), ((h 46), .inr (1, [.ref (h 84), .ref (h 85), .ref (h 86), .ref (h 87), .int 0, .int 0, .int (-1), .int 0, .int (-1), .int (-1), .int 0])), ((h 8), .inr (0, [.ref (h 102), .ref (h 103), .int 0]))] H := hP
  have hD : va_D A [((h 0), .inr (11, [.ref (h 1), .ref (h 9), .int 0, .int 0, .ref (h 20), .ref (h 37), .int 0, .ref (h 38), .ref (h 42), .ref (h 43), .ref (h 44), .ref (h 45), .ref (h 46), .ref (h 47), .ref (h 48)])), ((h 1), .inr (8, [.ref (h 2), .int 0, .ref (h 3), .ref (h 4), .int 0, .ref (h 5), .int 0, .ref (h 6), .int 0, .ref (h 7), .int 0])), ((h 7), .inl ((cs 0), 4, .inr (.inr (.inr (.inr fn))))), ((h 46), .inr (1, [.ref (h 84), .ref (h 85), .ref (h 86), .ref (h 87), .int 0, .int 0, .int (-1), .int 0, .int (-1), .int (-1), .int 0])), ((h 8), .inr (0, [.ref (h 102), .ref (h 103), .int 0]))] := hD
  refine lv_aload_n hx hb dX11_relation_32 rfl (lv_at hl 0 rfl) ?_
  refine va_get (D := D) (ci := 11) (v := .ref (h 46)) (C := RX11) (T := TX11) (N := 15) hx hb ht zinX11 hown hK hP 0 rfl rfl 12 (by decide) (ht _ zw_378) (fun _ h9 => h9) rfl dX11_relation_33 ?_
  refine va_get (D := D) (ci := 1) (v := .int (-1)) (C := RX1) (T := TX1) (N := 11) hx hb ht zinX1 hown hK hP 3 rfl rfl 9 (by decide) (ht _ zw_463) (fun _ h9 => h9) rfl dX11_relation_36 ?_
  have hP9 := hP.sub (ws' := []) [] rfl
  have hD9 := hD.sub (ws' := []) [] (by decide) rfl
  have hK9 := hK.sub (tys' := []) [] rfl
  refine W.widen (k := 1) (n := 6) (Nat.le_of_ble_eq_true rfl) (Nat.le_of_ble_eq_true rfl) ?_
  refine vx_ret ?_
  exact W.iret (v := (-1)) hx hb hr (fun t ht0 hW => ⟨⟨(-1), (), rfl, (show zS_relation p0 0 (-1) from (.inr ⟨rfl, by omega, rfl⟩)), (zE_of hP9 hK9 hD9 ht0 hW)⟩, hS.F ht0⟩) hS.2.2 dX11_relation_39
set_option maxHeartbeats 4000000 in
set_option maxRecDepth 100000 in
theorem k_X11_lemma (l : Launch) (hl0 : l.stackTraces = false) (sz : Nat) (D : va_G) (h cs : Nat → Nat) (p0 p1 : Int32) (fn : Nat → Option Nat) (hn : ∀ k : Nat, k < 4 → fn k = some (h 8)) : vx_Met l yX11_lemma (.code yX11_lemma cX11_lemma 4 (some .int) :: zT) ({ frames := 7, cells := 3, slots := 18, locals := 113 }) (va_Pc [.ref (h 0), .int p0, .int p1] (zW D [((h 0), .inr (11, [.ref (h 1), .ref (h 9), .int 0, .int 0, .ref (h 20), .ref (h 37), .int 0, .ref (h 38), .ref (h 42), .ref (h 43), .ref (h 44), .ref (h 45), .ref (h 46), .ref (h 47), .ref (h 48)])), ((h 1), .inr (8, [.ref (h 2), .int 0, .ref (h 3), .ref (h 4), .int 0, .ref (h 5), .int 0, .ref (h 6), .int 0, .ref (h 7), .int 0])), ((h 7), .inl ((cs 0), 4, .inr (.inr (.inr (.inr fn))))), ((h 8), .inr (0, [.ref (h 102), .ref (h 103), .int 0])), ((h 46), .inr (1, [.ref (h 84), .ref (h 85), .ref (h 86), .ref (h 87), .int 0, .int 0, .int (-1), .int 0, .int (-1), .int (-1), .int 0]))] [((cs 0), .object RX0)] sz)) (va_Qi (fun (r : Int32) (_ : Unit) => zS_lemma p0 p1 0 r) (fun _ t => zE D [] [] (va_A [((h 0), .inr (11, [.ref (h 1), .ref (h 9), .int 0, .int 0, .ref (h 20), .ref (h 37), .int 0, .ref (h 38), .ref (h 42), .ref (h 43), .ref (h 44), .ref (h 45), .ref (h 46), .ref (h 47), .ref (h 48)])), ((h 1), .inr (8, [.ref (h 2), .int 0, .ref (h 3), .ref (h 4), .int 0, .ref (h 5), .int 0, .ref (h 6), .int 0, .ref (h 7), .int 0])), ((h 7), .inl ((cs 0), 4, .inr (.inr (.inr (.inr fn))))), ((h 8), .inr (0, [.ref (h 102), .ref (h 103), .int 0])), ((h 46), .inr (1, [.ref (h 84), .ref (h 85), .ref (h 86), .ref (h 87), .int 0, .int 0, .int (-1), .int 0, .int (-1), .int (-1), .int 0]))] sz) t) (va_A [((h 0), .inr (11, [.ref (h 1), .ref (h 9), .int 0, .int 0, .ref (h 20), .ref (h 37), .int 0, .ref (h 38), .ref (h 42), .ref (h 43), .ref (h 44), .ref (h 45), .ref (h 46), .ref (h 47), .ref (h 48)])), ((h 1), .inr (8, [.ref (h 2), .int 0, .ref (h 3), .ref (h 4), .int 0, .ref (h 5), .int 0, .ref (h 6), .int 0, .ref (h 7), .int 0])), ((h 7), .inl ((cs 0), 4, .inr (.inr (.inr (.inr fn))))), ((h 8), .inr (0, [.ref (h 102), .ref (h 103), .int 0])), ((h 46), .inr (1, [.ref (h 84), .ref (h 85), .ref (h 86), .ref (h 87), .int 0, .int 0, .int (-1), .int 0, .int (-1), .int (-1), .int 0]))] sz)) (vx_X (fun _ : Unit => True) (fun E _ _ => (E = "java/lang/IllegalArgumentException" ∧ zS_lemma p0 p1 1 0) ∨ (E = "java/lang/IndexOutOfBoundsException" ∧ zS_lemma p0 p1 2 0) ∨ (E = "java/lang/IllegalStateException" ∧ zS_lemma p0 p1 3 0)) (va_A [((h 0), .inr (11, [.ref (h 1), .ref (h 9), .int 0, .int 0, .ref (h 20), .ref (h 37), .int 0, .ref (h 38), .ref (h 42), .ref (h 43), .ref (h 44), .ref (h 45), .ref (h 46), .ref (h 47), .ref (h 48)])), ((h 1), .inr (8, [.ref (h 2), .int 0, .ref (h 3), .ref (h 4), .int 0, .ref (h 5), .int 0, .ref (h 6), .int 0, .ref (h 7), .int 0])), ((h 7), .inl ((cs 0), 4, .inr (.inr (.inr (.inr fn))))), ((h 8), .inr (0, [.ref (h 102), .ref (h 103), .int 0])), ((h 46), .inr (1, [.ref (h 84), .ref (h 85), .ref (h 86), .ref (h 87), .int 0, .int 0, .int (-1), .int 0, .int (-1), .int (-1), .int 0]))] sz)) 3 18 (va_A [((h 0), .inr (11, [.ref (h 1), .ref (h 9), .int 0, .int 0, .ref (h 20), .ref (h 37), .int 0, .ref (h 38), .ref (h 42), .ref (h 43), .ref (h 44), .ref (h 45), .ref (h 46), .ref (h 47), .ref (h 48)])), ((h 1), .inr (8, [.ref (h 2), .int 0, .ref (h 3), .ref (h 4), .int 0, .ref (h 5), .int 0, .ref (h 6), .int 0, .ref (h 7), .int 0])), ((h 7), .inl ((cs 0), 4, .inr (.inr (.inr (.inr fn))))), ((h 8), .inr (0, [.ref (h 102), .ref (h 103), .int 0])), ((h 46), .inr (1, [.ref (h 84), .ref (h 85), .ref (h 86), .ref (h 87), .int 0, .int 0, .int (-1), .int 0, .int (-1), .int (-1), .int 0]))] sz) := by
  refine vx_ofW (cc := cX11_lemma) (maxL := 4) (ret := (some .int)) (by decide) rfl ?_
  intro p e s m args below meth c s₁ B hml hexc hv
  obtain ⟨rfl, hEx, hsz, hP, hK, hD0⟩ := hv
  have hx := B.exec
  have hb := B.bytes
  have hr := B.returns
  have hts := atoms_spec (ws := (.code yX11_lemma cX11_lemma 4 (some .int) :: zT)) B.pre
  have ht : ∀ w ∈ zT, w.before _ s = true := fun w h => hts w (List.mem_cons_of_mem _ h)
  have hown : s.vm.findClass RX11 = some m.cls := findClass_of_methodNamed B.named
  have hlocks := B.notSynchronized
  subst hsz
  have hD := hD0.self (sz := s.heap.size)
  generalize hAe : va_A [((h 0), .inr (11, [.ref (h 1), .ref (h 9), .int 0, .int 0, .ref (h 20), .ref (h 37), .int 0, .ref (h 38), .ref (h 42), .ref (h 43), .ref (h 44), .ref (h 45), .ref (h 46), .ref (h 47), .ref (h 48)])), ((h 1), .inr (8, [.ref (h 2), .int 0, .ref (h 3), .ref (h 4), .int 0, .ref (h 5), .int 0, .ref (h 6), .int 0, .ref (h 7), .int 0])), ((h 7), .inl ((cs 0), 4, .inr (.inr (.inr (.inr fn))))), ((h 8), .inr (0, [.ref (h 102), .ref (h 103), .int 0])), ((h 46), .inr (1, [.ref (h 84), .ref (h 85), .ref (h 86), .ref (h 87), .int 0, .int 0, .int (-1), .int 0, .int (-1), .int (-1), .int 0]))] s.heap.size = A at hD hEx ⊢
  have hA : ∀ q : Nat, s.heap.size ≤ q → A q := fun q h => by rw [← hAe]; exact Or.inr h
  have hS : va_S A s.heap s.heap [] := va_S.rf
  have hP : va_P D vwCl [((h 0), .inr (11, [.ref (h 1), .ref (h 9), .int 0, .int 0, .ref (h 20), .ref (h 37), .int 0, .ref (h 38), .ref (h 42), .ref (h 43), .ref (h 44), .ref (h 45), .ref (h 46), .ref (h 47), .ref (h 48)])), ((h 1), .inr (8, [.ref (h 2), .int 0, .ref (h 3), .ref (h 4), .int 0, .ref (h 5), .int 0, .ref (h 6), .int 0, .ref (h 7), .int 0])), ((h 7), .inl ((cs 0), 4, .inr (.inr (.inr (.inr fn))))), ((h 8), .inr (0, [.ref (h 102), .ref (h 103), .int 0])), ((h 46), .inr (1, [.ref (h 84), .ref (h 85), .ref (h 86), .ref (h 87), .int 0, .int 0, .int (-1), .int 0, .int (-1), .int (-1), .int 0]))] s.heap := hP
  have hl := lv_entry ([.ref (h 0), .int p0, .int p1]) (n := 4) (Nat.le_of_ble_eq_true rfl)
  rw [lg_entry_eq]
  generalize (lg_sl ([.ref (h 0), .int p0, .int p1]) ++ List.replicate (4 - (lg_sl ([.ref (h 0), .int p0, .int p1])).length) Slot.unset).toArray = ls at hl ⊢
  have hl : lv_has ls 4 [(0, .ref (h 0)), (1, .int p0), (2, .int p1)] := hl
  skip
  refine lv_iload_n hx hb dX11_lemma_0 rfl (lv_at hl 1 rfl) ?_
  refine lv_bipush (v := 99) hx hb dX11_lemma_1 (by decide) ?_
  have hPc := hP.sub (ws' := []) [] rfl
  have hDc := hD.sub (ws' := []) [] (by decide) rfl
  have hKc := hK.sub (tys' := []) [] rfl
  have hFc := va_free (wc := []) hD hS hA [] rfl
  refine vx_callv (vx_runS (As := [.int p0, .int 99]) (rest := []) ⟨hx, hb, hml, hown, ht⟩ (k_X11_checkNumber l hl0 _ D p0 99) (va_cwS 2 ht (zG_S zw_410 zw_411 zw_404 zw_412) rfl rfl rfl (by decide +kernel) ⟨Nat.le_of_ble_eq_true rfl, Nat.le_of_ble_eq_true rfl⟩) (zW_S hEx hS hFc hPc hKc hDc) rfl rfl hl.1 rfl (lv_room (Nat.le_of_ble_eq_true rfl)) dX11_lemma_3 ⟨Nat.le_of_ble_eq_true rfl, Nat.le_of_ble_eq_true rfl⟩) hS (fun q _ h => hFc q h) hFc (fun q _ h => hFc q h) (fun E ce q9 uu t H1 locs1 ht0 hvm hpx hB hz1 hk1 hS hcell hv hcl => ?_) (fun u_1 t H1 locs ht0 hvm hw_1 hB hz1 hk1 hS => ?_)
  · exact vx_out (fun x hx => (hexc x hx).elim) hlocks hcell hv hcl (fun t2 h2 hv2 => ⟨(), trivial, (by obtain ⟨hE, hb9⟩ := hB; (try simp only [Int32.reduceToInt] at hb9); exact .inl ⟨hE, (show zS_lemma p0 p1 1 0 from (.inl ⟨rfl, by omega⟩))⟩), hS.F h2⟩) hS.2.2 (Nat.le_of_ble_eq_true rfl) (Nat.le_of_ble_eq_true rfl)
  obtain ⟨hP1, hK1, hD1⟩ := hB
  rw [ht0] at hP1
  have hK1 := va_K.moved hvm.symm hK1
  obtain ⟨hP, hD⟩ := va_join (wr := [((h 0), .inr (11, [.ref (h 1), .ref (h 9), .int 0, .int 0, .ref (h 20), .ref (h 37), .int 0, .ref (h 38), .ref (h 42), .ref (h 43), .ref (h 44), .ref (h 45), .ref (h 46), .ref (h 47), .ref (h 48)])), ((h 1), .inr (8, [.ref (h 2), .int 0, .ref (h 3), .ref (h 4), .int 0, .ref (h 5), .int 0, .ref (h 6), .int 0, .ref (h 7), .int 0])), ((h 7), .inl ((cs 0), 4, .inr (.inr (.inr (.inr fn))))), ((h 8), .inr (0, [.ref (h 102), .ref (h 103), .int 0])), ((h 46), .inr (1, [.ref (h 84), .ref (h 85), .ref (h 86), .ref (h 87), .int 0, .int 0, .int (-1), .int 0, .int (-1), .int (-1), .int 0]))]) (w1 := []) hP hD [] [0, 1, 2, 3, 4] rfl rfl (by decide) (by decide) hk1 hFc hP1 hD1
  generalize H1 = H at hP hS ⊢
  have hP : va_P D vwCl [((h 0), .inr (11, [.ref (h 1), .ref (h 9), .int 0, .int 0, .ref (h 20), .ref (h 37), .int 0, .ref (h 38), .ref (h 42), .ref (h 43), .ref (h 44), .ref (h 45), .ref (h 46), .ref (h 47), .ref (h 48)])), ((h 1), .inr (8, [.ref (h 2), .int 0, .ref (h 3), .ref (h 4), .int 0, .ref (h 5), .int 0, .ref (h 6), .int 0, .ref (h 7), .int 0])), ((h 7), .inl ((cs 0), 4, .inr (.inr (.inr (.inr fn))))), ((h 8), .inr (0, [.ref (h 102), .ref (h 103), .int 0])), ((h 46), .inr (1, [.ref (h 84), .ref (h 85), .ref (h 86), .ref (h 87), .int 0, .int 0, .int (-1), .int 0, .int (-1), .int (-1), .int 0]))] H := hP
  have hD : va_D A [((h 0), .inr (11, [.ref (h 1), .ref (h 9), .int 0, .int 0, .ref (h 20), .ref (h 37), .int 0, .ref (h 38), .ref (h 42), .ref (h 43), .ref (h 44), .ref (h 45), .ref (h 46), .ref (h 47), .ref (h 48)])), ((h 1), .inr (8, [.ref (h 2), .int 0, .ref (h 3), .ref (h 4), .int 0, .ref (h 5), .int 0, .ref (h 6), .int 0, .ref (h 7), .int 0])), ((h 7), .inl ((cs 0), 4, .inr (.inr (.inr (.inr fn))))), ((h 8), .inr (0, [.ref (h 102), .ref (h 103), .int 0])), ((h 46), .inr (1, [.ref (h 84), .ref (h 85), .ref (h 86), .ref (h 87), .int 0, .int 0, .int (-1), .int 0, .int (-1), .int (-1), .int 0]))] := hD
  refine W.widen (k := 1) (n := 6) (Nat.le_of_ble_eq_true rfl) (Nat.le_of_ble_eq_true rfl) ?_
  simp only [Int32.reduceToInt] at hw_1
  refine lv_iload_n hx hb dX11_lemma_6 rfl (lv_at hl 2 rfl) ?_
  refine lv_iconst (v := 4) hx hb dX11_lemma_7 (by decide) ?_
  have hPc := hP.sub (ws' := []) [] rfl
  have hDc := hD.sub (ws' := []) [] (by decide) rfl
  have hKc := hK.sub (tys' := []) [] rfl
  have hFc := va_free (wc := []) hD hS hA [] rfl
  refine vx_callv (vx_runS (As := [.int p1, .int 4]) (rest := []) ⟨hx, hb, hml, hown, ht⟩ (k_X11_checkIndex l hl0 _ D p1 4) (va_cwS 2 ht (zG_S zw_402 zw_403 zw_404 zw_405) rfl rfl rfl (by decide +kernel) ⟨Nat.le_of_ble_eq_true rfl, Nat.le_of_ble_eq_true rfl⟩) (zW_S hEx hS hFc hPc hKc hDc) rfl rfl hl.1 rfl (lv_room (Nat.le_of_ble_eq_true rfl)) dX11_lemma_8 ⟨Nat.le_of_ble_eq_true rfl, Nat.le_of_ble_eq_true rfl⟩) hS (fun q _ h => hFc q h) hFc (fun q _ h => hFc q h) (fun E ce q9 uu t H1 locs1 ht0 hvm hpx hB hz1 hk1 hS hcell hv hcl => ?_) (fun u_2 t H1 locs ht0 hvm hw_2 hB hz1 hk1 hS => ?_)
  · exact vx_out (fun x hx => (hexc x hx).elim) hlocks hcell hv hcl (fun t2 h2 hv2 => ⟨(), trivial, (by obtain ⟨hE, hb9⟩ := hB; (try simp only [Int32.reduceToInt] at hb9); exact .inr (.inl ⟨hE, (show zS_lemma p0 p1 2 0 from (.inr (.inl ⟨rfl, by omega⟩)))⟩)), hS.F h2⟩) hS.2.2 (Nat.le_of_ble_eq_true rfl) (Nat.le_of_ble_eq_true rfl)
  obtain ⟨hP1, hK1, hD1⟩ := hB
  rw [ht0] at hP1
  have hK1 := va_K.moved hvm.symm hK1
  obtain ⟨hP, hD⟩ := va_join (wr := [((h 0), .inr (11, [.ref (h 1), .ref (h 9), .int 0, .int 0, .ref (h 20), .ref (h 37), .int 0, .ref (h 38), .ref (h 42), .ref (h 43), .ref (h 44), .ref (h 45), .ref (h 46), .ref (h 47), .ref (h 48)])), ((h 1), .inr (8, [.ref (h 2), .int 0, .ref (h 3), .ref (h 4), .int 0, .ref (h 5), .int 0, .ref (h 6), .int 0, .ref (h 7), .int 0])), ((h 7), .inl ((cs 0), 4, .inr (.inr (.inr (.inr fn))))), ((h 8), .inr (0, [.ref (h 102), .ref (h 103), .int 0])), ((h 46), .inr (1, [.ref (h 84), .ref (h 85), .ref (h 86), .ref (h 87), .int 0, .int 0, .int (-1), .int 0, .int (-1), .int (-1), .int 0]))]) (w1 := []) hP hD [] [0, 1, 2, 3, 4] rfl rfl (by decide) (by decide) hk1 hFc hP1 hD1
  generalize H1 = H at hP hS ⊢
  have hP : va_P D vwCl [((h 0), .inr (11, [.ref (h 1), .ref (h 9), .int 0, .int 0, .ref (h 20), .ref (h 37), .int 0, .ref (h 38), .ref (h 42), .ref (h 43), .ref (h 44), .ref (h 45), .ref (h 46), .ref (h 47), .ref (h 48)])), ((h 1), .inr (8, [.ref (h 2), .int 0, .ref (h 3), .ref (h 4), .int 0, .ref (h 5), .int 0, .ref (h 6), .int 0, .ref (h 7), .int 0])), ((h 7), .inl ((cs 0), 4, .inr (.inr (.inr (.inr fn))))), ((h 8), .inr (0, [.ref (h 102), .ref (h 103), .int 0])), ((h 46), .inr (1, [.ref (h 84), .ref (h 85), .ref (h 86), .ref (h 87), .int 0, .int 0, .int (-1), .int 0, .int (-1), .int (-1), .int 0]))] H := hP
  have hD : va_D A [((h 0), .inr (11, [.ref (h 1), .ref (h 9), .int 0, .int 0, .ref (h 20), .ref (h 37), .int 0, .ref (h 38), .ref (h 42), .ref (h 43), .ref (h 44), .ref (h 45), .ref (h 46), .ref (h 47), .ref (h 48)])), ((h 1), .inr (8, [.ref (h 2), .int 0, .ref (h 3), .ref (h 4), .int 0, .ref (h 5), .int 0, .ref (h 6), .int 0, .ref (h 7), .int 0])), ((h 7), .inl ((cs 0), 4, .inr (.inr (.inr (.inr fn))))), ((h 8), .inr (0, [.ref (h 102), .ref (h 103), .int 0])), ((h 46), .inr (1, [.ref (h 84), .ref (h 85), .ref (h 86), .ref (h 87), .int 0, .int 0, .int (-1), .int 0, .int (-1), .int (-1), .int 0]))] := hD
  refine W.widen (k := 2) (n := 12) (Nat.le_of_ble_eq_true rfl) (Nat.le_of_ble_eq_true rfl) ?_
  simp only [Int32.reduceToInt] at hw_2
  refine lv_aload_n hx hb dX11_lemma_11 rfl (lv_at hl 0 rfl) ?_
  refine va_get (D := D) (ci := 11) (v := .ref (h 46)) (C := RX11) (T := TX11) (N := 15) hx hb ht zinX11 hown hK hP 0 rfl rfl 12 (by decide) (ht _ zw_378) (fun _ h9 => h9) rfl dX11_lemma_12 ?_
  refine lv_aload_n hx hb dX11_lemma_15 rfl (lv_at hl 0 rfl) ?_
  refine va_get (D := D) (ci := 11) (v := .ref (h 1)) (C := RX11) (T := TX11) (N := 15) hx hb ht zinX11 hown hK hP 0 rfl rfl 0 (by decide) (ht _ zw_353) (fun _ h9 => h9) rfl dX11_lemma_16 ?_
  refine lv_aload_n hx hb dX11_lemma_19 rfl (lv_at hl 0 rfl) ?_
  refine va_get (D := D) (ci := 11) (v := .ref (h 1)) (C := RX11) (T := TX11) (N := 15) hx hb ht zinX11 hown hK hP 0 rfl rfl 0 (by decide) (ht _ zw_353) (fun _ h9 => h9) rfl dX11_lemma_20 ?_
  refine va_get (D := D) (ci := 8) (v := .ref (h 7)) (C := RX8) (T := TX8) (N := 11) hx hb ht zinX8 hown hK hP 1 rfl rfl 9 (by decide) (ht _ zw_452) (fun _ h9 => h9) rfl dX11_lemma_23 ?_
  refine lv_iload_n hx hb dX11_lemma_26 rfl (lv_at hl 2 rfl) ?_
  refine va_aldq hx hb hK hP 2 0 rfl rfl (vp_in_iff.mpr ⟨hw_2.1, by have hq := hw_2.2; omega⟩) dX11_lemma_27 ?_
  refine W.eq (g2 := F0 m 28 ls (.ref (h 8) :: .ref (h 1) :: .ref (h 46) :: [])) (by show F0 m _ ls (va_rf (fn p1.toNatClampNeg) :: _) = _; rw [hn _ (by exact zcl4 (by omega) (by omega))]; rfl) ?_
  refine lv_iconst (v := 0) hx hb dX11_lemma_28 (by decide) ?_
  have hPc := hP.sub (ws' := [((h 46), .inr (1, [.ref (h 84), .ref (h 85), .ref (h 86), .ref (h 87), .int 0, .int 0, .int (-1), .int 0, .int (-1), .int (-1), .int 0])), ((h 8), .inr (0, [.ref (h 102), .ref (h 103), .int 0]))]) [4, 3] rfl
  have hDc := hD.sub (ws' := [((h 46), .inr (1, [.ref (h 84), .ref (h 85), .ref (h 86), .ref (h 87), .int 0, .int 0, .int (-1), .int 0, .int (-1), .int (-1), .int 0])), ((h 8), .inr (0, [.ref (h 102), .ref (h 103), .int 0]))]) [4, 3] (by decide) rfl
  have hKc := hK.sub (tys' := []) [] rfl
  have hFc := va_free (wc := [((h 46), .inr (1, [.ref (h 84), .ref (h 85), .ref (h 86), .ref (h 87), .int 0, .int 0, .int (-1), .int 0, .int (-1), .int (-1), .int 0])), ((h 8), .inr (0, [.ref (h 102), .ref (h 103), .int 0]))]) hD hS hA [4, 3] rfl
  refine va_callv (va_runV (As := [.ref (h 1), .ref (h 8), .int 0]) (rest := []) ⟨hx, hb, hml, hown, ht⟩ (k_X1_judge l _ D h cs 0) (cwV 3 ht (zG_V zw_458 zw_459 zw_460 zw_375 zw_461) rfl rfl rfl (by decide +kernel) ⟨Nat.le_of_ble_eq_true rfl, Nat.le_of_ble_eq_true rfl⟩) (zM_V (va_recv hK hP (ci := 1) (q0 := 4) rfl rfl) hPc hKc hDc) rfl rfl hl.1 rfl (lv_room (Nat.le_of_ble_eq_true rfl)) dX11_lemma_29 ⟨Nat.le_of_ble_eq_true rfl, Nat.le_of_ble_eq_true rfl⟩) hS (fun q _ h => hFc q h) hFc (fun u_4 t H1 locs ht0 hvm hw_4 hB hz1 hk1 hS => ?_)
  obtain ⟨hP1, hK1, hD1⟩ := hB
  rw [ht0] at hP1
  have hK1 := va_K.moved hvm.symm hK1
  obtain ⟨hP, hD⟩ := va_join (wr := [((h 0), .inr (11, [.ref (h 1), .ref (h 9), .int 0, .int 0, .ref (h 20), .ref (h 37), .int 0, .ref (h 38), .ref (h 42), .ref (h 43), .ref (h 44), .ref (h 45), .ref (h 46), .ref (h 47), .ref (h 48)])), ((h 1), .inr (8, [.ref (h 2), .int 0, .ref (h 3), .ref (h 4), .int 0, .ref (h 5), .int 0, .ref (h 6), .int 0, .ref (h 7), .int 0])), ((h 7), .inl ((cs 0), 4, .inr (.inr (.inr (.inr fn)))))]) (w1 := [((h 46), .inr (1, [.ref (h 84), .ref (h 85), .ref (h 86), .ref (h 87), .int 0, .int 0, .int (-1), .int 0, .int (-1), .int (-1), .int 0])), ((h 8), .inr (0, [.ref (h 102), .ref (h 103), .int 0]))]) hP hD [4, 3] [0, 1, 2] rfl rfl (by decide) (by decide) hk1 hFc hP1 hD1
  generalize H1 = H at hP hS ⊢
  have hP : va_P D vwCl [((h 0), .inr (11, [.ref (h 1), .ref (h 9), .int 0, .int 0, .ref (h 20), .ref (h 37), .int 0, .ref (h 38), .ref (h 42), .ref (h 43), .ref (h 44), .ref (h 45), .ref (h 46), .ref (h 47), .ref (h 48)])), ((h 1), .inr (8, [.ref (h 2), .int 0, .ref (h 3), .ref (h 4), .int 0, .ref (h 5), .int 0, .ref (h 6), .int 0, .ref (h 7), .int 0])), ((h 7), .inl ((cs 0), 4, .inr (.inr (.inr (.inr fn))))), ((h 46), .inr (1, [.ref (h 84), .ref (h 85), .ref (h 86), .ref (h 87), .int 0, .int 0, .int (-1), .int 0, .int (-1), .int (-1), .int 0])), ((h 8), .inr (0, [.ref (h 102), .ref (h 103), .int 0]))] H := hP
  have hD : va_D A [((h 0), .inr (11, [.ref (h 1), .ref (h 9), .int 0, .int 0, .ref (h 20), .ref (h 37), .int 0, .ref (h 38), .ref (h 42), .ref (h 43), .ref (h 44), .ref (h 45), .ref (h 46), .ref (h 47), .ref (h 48)])), ((h 1), .inr (8, [.ref (h 2), .int 0, .ref (h 3), .ref (h 4), .int 0, .ref (h 5), .int 0, .ref (h 6), .int 0, .ref (h 7), .int 0])), ((h 7), .inl ((cs 0), 4, .inr (.inr (.inr (.inr fn))))), ((h 46), .inr (1, [.ref (h 84), .ref (h 85), .ref (h 86), .ref (h 87), .int 0, .int 0, .int (-1), .int 0, .int (-1), .int (-1), .int 0])), ((h 8), .inr (0, [.ref (h 102), .ref (h 103), .int 0]))] := hD
  refine lv_aload_n hx hb dX11_lemma_32 rfl (lv_at hl 0 rfl) ?_
  refine lv_aload_n hx hb dX11_lemma_33 rfl (lv_at hl 0 rfl) ?_
  refine va_get (D := D) (ci := 11) (v := .ref (h 1)) (C := RX11) (T := TX11) (N := 15) hx hb ht zinX11 hown hK hP 0 rfl rfl 0 (by decide) (ht _ zw_353) (fun _ h9 => h9) rfl dX11_lemma_34 ?_
  refine va_get (D := D) (ci := 8) (v := .ref (h 7)) (C := RX8) (T := TX8) (N := 11) hx hb ht zinX8 hown hK hP 1 rfl rfl 9 (by decide) (ht _ zw_452) (fun _ h9 => h9) rfl dX11_lemma_37 ?_
  refine lv_iload_n hx hb dX11_lemma_40 rfl (lv_at hl 2 rfl) ?_
  refine va_aldq hx hb hK hP 2 0 rfl rfl (vp_in_iff.mpr ⟨hw_2.1, by have hq := hw_2.2; omega⟩) dX11_lemma_41 ?_
  refine W.eq (g2 := F0 m 42 ls (.ref (h 8) :: .ref (h 0) :: [])) (by show F0 m _ ls (va_rf (fn p1.toNatClampNeg) :: _) = _; rw [hn _ (by exact zcl4 (by omega) (by omega))]; rfl) ?_
  refine lv_iload_n hx hb dX11_lemma_42 rfl (lv_at hl 1 rfl) ?_
  have hPc := hP.sub (ws' := [((h 0), .inr (11, [.ref (h 1), .ref (h 9), .int 0, .int 0, .ref (h 20), .ref (h 37), .int 0, .ref (h 38), .ref (h 42), .ref (h 43), .ref (h 44), .ref (h 45), .ref (h 46), .ref (h 47), .ref (h 48)])), ((h 46), .inr (1, [.ref (h 84), .ref (h 85), .ref (h 86), .ref (h 87), .int 0, .int 0, .int (-1), .int 0, .int (-1), .int (-1), .int 0])), ((h 8), .inr (0, [.ref (h 102), .ref (h 103), .int 0]))]) [0, 3, 4] rfl
  have hDc := hD.sub (ws' := [((h 0), .inr (11, [.ref (h 1), .ref (h 9), .int 0, .int 0, .ref (h 20), .ref (h 37), .int 0, .ref (h 38), .ref (h 42), .ref (h 43), .ref (h 44), .ref (h 45), .ref (h 46), .ref (h 47), .ref (h 48)])), ((h 46), .inr (1, [.ref (h 84), .ref (h 85), .ref (h 86), .ref (h 87), .int 0, .int 0, .int (-1), .int 0, .int (-1), .int (-1), .int 0])), ((h 8), .inr (0, [.ref (h 102), .ref (h 103), .int 0]))]) [0, 3, 4] (by decide) rfl
  have hKc := hK.sub (tys' := []) [] rfl
  have hFc := va_free (wc := [((h 0), .inr (11, [.ref (h 1), .ref (h 9), .int 0, .int 0, .ref (h 20), .ref (h 37), .int 0, .ref (h 38), .ref (h 42), .ref (h 43), .ref (h 44), .ref (h 45), .ref (h 46), .ref (h 47), .ref (h 48)])), ((h 46), .inr (1, [.ref (h 84), .ref (h 85), .ref (h 86), .ref (h 87), .int 0, .int 0, .int (-1), .int 0, .int (-1), .int (-1), .int 0])), ((h 8), .inr (0, [.ref (h 102), .ref (h 103), .int 0]))]) hD hS hA [0, 3, 4] rfl
  refine vx_callq (vx_runV (As := [.ref (h 8), .int p0]) (rest := []) ⟨hx, hb, hml, hown, ht⟩ (k_X11_provedBy l hl0 _ D h cs p0) (cwV 2 ht (zG_V zw_464 zw_465 zw_466 zw_404 zw_467) rfl rfl rfl (by decide +kernel) ⟨Nat.le_of_ble_eq_true rfl, Nat.le_of_ble_eq_true rfl⟩) (zW_V (va_recv hK hP (ci := 11) (q0 := 0) rfl rfl) hEx hS hFc hPc hKc hDc) rfl rfl hl.1 rfl (lv_room (Nat.le_of_ble_eq_true rfl)) dX11_lemma_43 ⟨Nat.le_of_ble_eq_true rfl, Nat.le_of_ble_eq_true rfl⟩) hS (fun q _ h => hFc q h) hFc (fun q _ h => hFc q h) (fun E ce q9 uu t H1 locs1 ht0 hvm hpx hB hz1 hk1 hS hcell hv hcl => ?_) (fun r_6 u_6 t H1 locs ht0 hvm hw_6 hB hz1 hk1 hS => ?_)
  · exact vx_out (fun x hx => (hexc x hx).elim) hlocks hcell hv hcl (fun t2 h2 hv2 => ⟨(), trivial, (by obtain ⟨hE, hb9⟩ := hB; (try simp only [Int32.reduceToInt] at hb9); exact .inr (.inr (⟨hE, (show zS_lemma p0 p1 3 0 from (.inr (.inr ⟨rfl, by omega⟩)))⟩))), hS.F h2⟩) hS.2.2 (Nat.le_of_ble_eq_true rfl) (Nat.le_of_ble_eq_true rfl)
  exact hw_6.elim
set_option maxHeartbeats 4000000 in
set_option maxRecDepth 100000 in
theorem k_X11_signs (l : Launch) (sz : Nat) (D : va_G) (h cs : Nat → Nat) : Met l yX11_signs (.code yX11_signs cX11_signs 1 (some .int) :: zT) ({ frames := 0, cells := 0, slots := 0, locals := 0 }) (va_Pc [.ref (h 0)] (zM D [((h 0), .inr (11, [.ref (h 1), .ref (h 9), .int 0, .int 0, .ref (h 20), .ref (h 37), .int 0, .ref (h 38), .ref (h 42), .ref (h 43), .ref (h 44), .ref (h 45), .ref (h 46), .ref (h 47), .ref (h 48)])), ((h 1), .inr (8, [.ref (h 2), .int 0, .ref (h 3), .ref (h 4), .int 0, .ref (h 5), .int 0, .ref (h 6), .int 0, .ref (h 7), .int 0]))] [] sz)) (va_Qi (fun (r : Int32) (_ : Unit) => r = 0) (fun _ t => zE D [] [] (va_A [((h 0), .inr (11, [.ref (h 1), .ref (h 9), .int 0, .int 0, .ref (h 20), .ref (h 37), .int 0, .ref (h 38), .ref (h 42), .ref (h 43), .ref (h 44), .ref (h 45), .ref (h 46), .ref (h 47), .ref (h 48)])), ((h 1), .inr (8, [.ref (h 2), .int 0, .ref (h 3), .ref (h 4), .int 0, .ref (h 5), .int 0, .ref (h 6), .int 0, .ref (h 7), .int 0]))] sz) t) (va_A [((h 0), .inr (11, [.ref (h 1), .ref (h 9), .int 0, .int 0, .ref (h 20), .ref (h 37), .int 0, .ref (h 38), .ref (h 42), .ref (h 43), .ref (h 44), .ref (h 45), .ref (h 46), .ref (h 47), .ref (h 48)])), ((h 1), .inr (8, [.ref (h 2), .int 0, .ref (h 3), .ref (h 4), .int 0, .ref (h 5), .int 0, .ref (h 6), .int 0, .ref (h 7), .int 0]))] sz)) 0 0 (va_A [((h 0), .inr (11, [.ref (h 1), .ref (h 9), .int 0, .int 0, .ref (h 20), .ref (h 37), .int 0, .ref (h 38), .ref (h 42), .ref (h 43), .ref (h 44), .ref (h 45), .ref (h 46), .ref (h 47), .ref (h 48)])), ((h 1), .inr (8, [.ref (h 2), .int 0, .ref (h 3), .ref (h 4), .int 0, .ref (h 5), .int 0, .ref (h 6), .int 0, .ref (h 7), .int 0]))] sz) := by
  refine Met.ofW (cc := cX11_signs) (maxL := 1) (ret := (some .int)) (by decide) rfl ?_
  intro p e s m args below meth c s₁ B hml hv
  obtain ⟨rfl, hsz, hP, hK, hD0⟩ := hv
  have hx := B.exec
  have hb := B.bytes
  have hr := B.returns
  have hts := atoms_spec (ws := (.code yX11_signs cX11_signs 1 (some .int) :: zT)) B.pre
  have ht : ∀ w ∈ zT, w.before _ s = true := fun w h => hts w (List.mem_cons_of_mem _ h)
  have hown : s.vm.findClass RX11 = some m.cls := findClass_of_methodNamed B.named
  have hlocks := B.notSynchronized
  subst hsz
  have hD := hD0.self (sz := s.heap.size)
  generalize hAe : va_A [((h 0), .inr (11, [.ref (h 1), .ref (h 9), .int 0, .int 0, .ref (h 20), .ref (h 37), .int 0, .ref (h 38), .ref (h 42), .ref (h 43), .ref (h 44), .ref (h 45), .ref (h 46), .ref (h 47), .ref (h 48)])), ((h 1), .inr (8, [.ref (h 2), .int 0, .ref (h 3), .ref (h 4), .int 0, .ref (h 5), .int 0, .ref (h 6), .int 0, .ref (h 7), .int 0]))] s.heap.size = A at hD ⊢
  have hA : ∀ q : Nat, s.heap.size ≤ q → A q := fun q h => by rw [← hAe]; exact Or.inr h
  have hS : va_S A s.heap s.heap [] := va_S.rf
  have hP : va_P D vwCl [((h 0), .inr (11, [.ref (h 1), .ref (h 9), .int 0, .int 0, .ref (h 20), .ref (h 37), .int 0, .ref (h 38), .ref (h 42), .ref (h 43), .ref (h 44), .ref (h 45), .ref (h 46), .ref (h 47), .ref (h 48)])), ((h 1), .inr (8, [.ref (h 2), .int 0, .ref (h 3), .ref (h 4), .int 0, .ref (h 5), .int 0, .ref (h 6), .int 0, .ref (h 7), .int 0]))] s.heap := hP
  have hl := lv_entry ([.ref (h 0)]) (n := 1) (Nat.le_of_ble_eq_true rfl)
  rw [lg_entry_eq]
  generalize (lg_sl ([.ref (h 0)]) ++ List.replicate (1 - (lg_sl ([.ref (h 0)])).length) Slot.unset).toArray = ls at hl ⊢
  have hl : lv_has ls 1 [(0, .ref (h 0))] := hl
  skip
  refine lv_aload_n hx hb dX11_signs_0 rfl (lv_at hl 0 rfl) ?_
  refine va_get (D := D) (ci := 11) (v := .ref (h 1)) (C := RX11) (T := TX11) (N := 15) hx hb ht zinX11 hown hK hP 0 rfl rfl 0 (by decide) (ht _ zw_353) (fun _ h9 => h9) rfl dX11_signs_1 ?_
  refine va_get (D := D) (ci := 8) (v := .int 0) (C := RX8) (T := TX8) (N := 11) hx hb ht zinX8 hown hK hP 1 rfl rfl 1 (by decide) (ht _ zw_441) (fun _ h9 => h9) rfl dX11_signs_4 ?_
  have hP9 := hP.sub (ws' := []) [] rfl
  have hD9 := hD.sub (ws' := []) [] (by decide) rfl
  have hK9 := hK.sub (tys' := []) [] rfl
  refine W.widen (k := 0) (n := 0) (Nat.le_of_ble_eq_true rfl) (Nat.le_of_ble_eq_true rfl) ?_
  exact W.iret (v := 0) hx hb hr (fun t ht0 hW => ⟨⟨0, (), rfl, rfl, (zE_of hP9 hK9 hD9 ht0 hW)⟩, hS.F ht0⟩) hS.2.2 dX11_signs_7
set_option maxHeartbeats 4000000 in
set_option maxRecDepth 100000 in
theorem k_X11_laws (l : Launch) (sz : Nat) (D : va_G) (h cs : Nat → Nat) : Met l yX11_laws (.code yX11_laws cX11_laws 1 (some .int) :: zT) ({ frames := 0, cells := 0, slots := 0, locals := 0 }) (va_Pc [.ref (h 0)] (zM D [((h 0), .inr (11, [.ref (h 1), .ref (h 9), .int 0, .int 0, .ref (h 20), .ref (h 37), .int 0, .ref (h 38), .ref (h 42), .ref (h 43), .ref (h 44), .ref (h 45), .ref (h 46), .ref (h 47), .ref (h 48)])), ((h 1), .inr (8, [.ref (h 2), .int 0, .ref (h 3), .ref (h 4), .int 0, .ref (h 5), .int 0, .ref (h 6), .int 0, .ref (h 7), .int 0]))] [] sz)) (va_Qi (fun (r : Int32) (_ : Unit) => r = 0) (fun _ t => zE D [] [] (va_A [((h 0), .inr (11, [.ref (h 1), .ref (h 9), .int 0, .int 0, .ref (h 20), .ref (h 37), .int 0, .ref (h 38), .ref (h 42), .ref (h 43), .ref (h 44), .ref (h 45), .ref (h 46), .ref (h 47), .ref (h 48)])), ((h 1), .inr (8, [.ref (h 2), .int 0, .ref (h 3), .ref (h 4), .int 0, .ref (h 5), .int 0, .ref (h 6), .int 0, .ref (h 7), .int 0]))] sz) t) (va_A [((h 0), .inr (11, [.ref (h 1), .ref (h 9), .int 0, .int 0, .ref (h 20), .ref (h 37), .int 0, .ref (h 38), .ref (h 42), .ref (h 43), .ref (h 44), .ref (h 45), .ref (h 46), .ref (h 47), .ref (h 48)])), ((h 1), .inr (8, [.ref (h 2), .int 0, .ref (h 3), .ref (h 4), .int 0, .ref (h 5), .int 0, .ref (h 6), .int 0, .ref (h 7), .int 0]))] sz)) 0 0 (va_A [((h 0), .inr (11, [.ref (h 1), .ref (h 9), .int 0, .int 0, .ref (h 20), .ref (h 37), .int 0, .ref (h 38), .ref (h 42), .ref (h 43), .ref (h 44), .ref (h 45), .ref (h 46), .ref (h 47), .ref (h 48)])), ((h 1), .inr (8, [.ref (h 2), .int 0, .ref (h 3), .ref (h 4), .int 0, .ref (h 5), .int 0, .ref (h 6), .int 0, .ref (h 7), .int 0]))] sz) := by
  refine Met.ofW (cc := cX11_laws) (maxL := 1) (ret := (some .int)) (by decide) rfl ?_
  intro p e s m args below meth c s₁ B hml hv
  obtain ⟨rfl, hsz, hP, hK, hD0⟩ := hv
  have hx := B.exec
  have hb := B.bytes
  have hr := B.returns
  have hts := atoms_spec (ws := (.code yX11_laws cX11_laws 1 (some .int) :: zT)) B.pre
  have ht : ∀ w ∈ zT, w.before _ s = true := fun w h => hts w (List.mem_cons_of_mem _ h)
  have hown : s.vm.findClass RX11 = some m.cls := findClass_of_methodNamed B.named
  have hlocks := B.notSynchronized
  subst hsz
  have hD := hD0.self (sz := s.heap.size)
  generalize hAe : va_A [((h 0), .inr (11, [.ref (h 1), .ref (h 9), .int 0, .int 0, .ref (h 20), .ref (h 37), .int 0, .ref (h 38), .ref (h 42), .ref (h 43), .ref (h 44), .ref (h 45), .ref (h 46), .ref (h 47), .ref (h 48)])), ((h 1), .inr (8, [.ref (h 2), .int 0, .ref (h 3), .ref (h 4), .int 0, .ref (h 5), .int 0, .ref (h 6), .int 0, .ref (h 7), .int 0]))] s.heap.size = A at hD ⊢
  have hA : ∀ q : Nat, s.heap.size ≤ q → A q := fun q h => by rw [← hAe]; exact Or.inr h
  have hS : va_S A s.heap s.heap [] := va_S.rf
  have hP : va_P D vwCl [((h 0), .inr (11, [.ref (h 1), .ref (h 9), .int 0, .int 0, .ref (h 20), .ref (h 37), .int 0, .ref (h 38), .ref (h 42), .ref (h 43), .ref (h 44), .ref (h 45), .ref (h 46), .ref (h 47), .ref (h 48)])), ((h 1), .inr (8, [.ref (h 2), .int 0, .ref (h 3), .ref (h 4), .int 0, .ref (h 5), .int 0, .ref (h 6), .int 0, .ref (h 7), .int 0]))] s.heap := hP
  have hl := lv_entry ([.ref (h 0)]) (n := 1) (Nat.le_of_ble_eq_true rfl)
  rw [lg_entry_eq]
  generalize (lg_sl ([.ref (h 0)]) ++ List.replicate (1 - (lg_sl ([.ref (h 0)])).length) Slot.unset).toArray = ls at hl ⊢
  have hl : lv_has ls 1 [(0, .ref (h 0))] := hl
  skip
  refine lv_aload_n hx hb dX11_laws_0 rfl (lv_at hl 0 rfl) ?_
  refine va_get (D := D) (ci := 11) (v := .ref (h 1)) (C := RX11) (T := TX11) (N := 15) hx hb ht zinX11 hown hK hP 0 rfl rfl 0 (by decide) (ht _ zw_353) (fun _ h9 => h9) rfl dX11_laws_1 ?_
  refine va_get (D := D) (ci := 8) (v := .int 0) (C := RX8) (T := TX8) (N := 11) hx hb ht zinX8 hown hK hP 1 rfl rfl 4 (by decide) (ht _ zw_468) (fun _ h9 => h9) rfl dX11_laws_4 ?_
  have hP9 := hP.sub (ws' := []) [] rfl
  have hD9 := hD.sub (ws' := []) [] (by decide) rfl
  have hK9 := hK.sub (tys' := []) [] rfl
  refine W.widen (k := 0) (n := 0) (Nat.le_of_ble_eq_true rfl) (Nat.le_of_ble_eq_true rfl) ?_
  exact W.iret (v := 0) hx hb hr (fun t ht0 hW => ⟨⟨0, (), rfl, rfl, (zE_of hP9 hK9 hD9 ht0 hW)⟩, hS.F ht0⟩) hS.2.2 dX11_laws_7
set_option maxHeartbeats 4000000 in
set_option maxRecDepth 100000 in
theorem k_X11_open (l : Launch) (sz : Nat) (D : va_G) (h cs : Nat → Nat) : Met l yX11_open (.code yX11_open cX11_open 1 (some .int) :: zT) ({ frames := 0, cells := 0, slots := 0, locals := 0 }) (va_Pc [.ref (h 0)] (zM D [((h 0), .inr (11, [.ref (h 1), .ref (h 9), .int 0, .int 0, .ref (h 20), .ref (h 37), .int 0, .ref (h 38), .ref (h 42), .ref (h 43), .ref (h 44), .ref (h 45), .ref (h 46), .ref (h 47), .ref (h 48)])), ((h 1), .inr (8, [.ref (h 2), .int 0, .ref (h 3), .ref (h 4), .int 0, .ref (h 5), .int 0, .ref (h 6), .int 0, .ref (h 7), .int 0]))] [] sz)) (va_Qi (fun (r : Int32) (_ : Unit) => r = 0) (fun _ t => zE D [] [] (va_A [((h 0), .inr (11, [.ref (h 1), .ref (h 9), .int 0, .int 0, .ref (h 20), .ref (h 37), .int 0, .ref (h 38), .ref (h 42), .ref (h 43), .ref (h 44), .ref (h 45), .ref (h 46), .ref (h 47), .ref (h 48)])), ((h 1), .inr (8, [.ref (h 2), .int 0, .ref (h 3), .ref (h 4), .int 0, .ref (h 5), .int 0, .ref (h 6), .int 0, .ref (h 7), .int 0]))] sz) t) (va_A [((h 0), .inr (11, [.ref (h 1), .ref (h 9), .int 0, .int 0, .ref (h 20), .ref (h 37), .int 0, .ref (h 38), .ref (h 42), .ref (h 43), .ref (h 44), .ref (h 45), .ref (h 46), .ref (h 47), .ref (h 48)])), ((h 1), .inr (8, [.ref (h 2), .int 0, .ref (h 3), .ref (h 4), .int 0, .ref (h 5), .int 0, .ref (h 6), .int 0, .ref (h 7), .int 0]))] sz)) 0 0 (va_A [((h 0), .inr (11, [.ref (h 1), .ref (h 9), .int 0, .int 0, .ref (h 20), .ref (h 37), .int 0, .ref (h 38), .ref (h 42), .ref (h 43), .ref (h 44), .ref (h 45), .ref (h 46), .ref (h 47), .ref (h 48)])), ((h 1), .inr (8, [.ref (h 2), .int 0, .ref (h 3), .ref (h 4), .int 0, .ref (h 5), .int 0, .ref (h 6), .int 0, .ref (h 7), .int 0]))] sz) := by
  refine Met.ofW (cc := cX11_open) (maxL := 1) (ret := (some .int)) (by decide) rfl ?_
  intro p e s m args below meth c s₁ B hml hv
  obtain ⟨rfl, hsz, hP, hK, hD0⟩ := hv
  have hx := B.exec
  have hb := B.bytes
  have hr := B.returns
  have hts := atoms_spec (ws := (.code yX11_open cX11_open 1 (some .int) :: zT)) B.pre
  have ht : ∀ w ∈ zT, w.before _ s = true := fun w h => hts w (List.mem_cons_of_mem _ h)
  have hown : s.vm.findClass RX11 = some m.cls := findClass_of_methodNamed B.named
  have hlocks := B.notSynchronized
  subst hsz
  have hD := hD0.self (sz := s.heap.size)
  generalize hAe : va_A [((h 0), .inr (11, [.ref (h 1), .ref (h 9), .int 0, .int 0, .ref (h 20), .ref (h 37), .int 0, .ref (h 38), .ref (h 42), .ref (h 43), .ref (h 44), .ref (h 45), .ref (h 46), .ref (h 47), .ref (h 48)])), ((h 1), .inr (8, [.ref (h 2), .int 0, .ref (h 3), .ref (h 4), .int 0, .ref (h 5), .int 0, .ref (h 6), .int 0, .ref (h 7), .int 0]))] s.heap.size = A at hD ⊢
  have hA : ∀ q : Nat, s.heap.size ≤ q → A q := fun q h => by rw [← hAe]; exact Or.inr h
  have hS : va_S A s.heap s.heap [] := va_S.rf
  have hP : va_P D vwCl [((h 0), .inr (11, [.ref (h 1), .ref (h 9), .int 0, .int 0, .ref (h 20), .ref (h 37), .int 0, .ref (h 38), .ref (h 42), .ref (h 43), .ref (h 44), .ref (h 45), .ref (h 46), .ref (h 47), .ref (h 48)])), ((h 1), .inr (8, [.ref (h 2), .int 0, .ref (h 3), .ref (h 4), .int 0, .ref (h 5), .int 0, .ref (h 6), .int 0, .ref (h 7), .int 0]))] s.heap := hP
  have hl := lv_entry ([.ref (h 0)]) (n := 1) (Nat.le_of_ble_eq_true rfl)
  rw [lg_entry_eq]
  generalize (lg_sl ([.ref (h 0)]) ++ List.replicate (1 - (lg_sl ([.ref (h 0)])).length) Slot.unset).toArray = ls at hl ⊢
  have hl : lv_has ls 1 [(0, .ref (h 0))] := hl
  skip
  refine lv_aload_n hx hb dX11_open_0 rfl (lv_at hl 0 rfl) ?_
  refine va_get (D := D) (ci := 11) (v := .ref (h 1)) (C := RX11) (T := TX11) (N := 15) hx hb ht zinX11 hown hK hP 0 rfl rfl 0 (by decide) (ht _ zw_353) (fun _ h9 => h9) rfl dX11_open_1 ?_
  refine va_get (D := D) (ci := 8) (v := .int 0) (C := RX8) (T := TX8) (N := 11) hx hb ht zinX8 hown hK hP 1 rfl rfl 8 (by decide) (ht _ zw_401) (fun _ h9 => h9) rfl dX11_open_4 ?_
  have hP9 := hP.sub (ws' := []) [] rfl
  have hD9 := hD.sub (ws' := []) [] (by decide) rfl
  have hK9 := hK.sub (tys' := []) [] rfl
  refine W.widen (k := 0) (n := 0) (Nat.le_of_ble_eq_true rfl) (Nat.le_of_ble_eq_true rfl) ?_
  exact W.iret (v := 0) hx hb hr (fun t ht0 hW => ⟨⟨0, (), rfl, rfl, (zE_of hP9 hK9 hD9 ht0 hW)⟩, hS.F ht0⟩) hS.2.2 dX11_open_7
set_option maxHeartbeats 4000000 in
set_option maxRecDepth 100000 in
theorem k_X11_clearText (l : Launch) (sz : Nat) (D : va_G) (h cs : Nat → Nat) : Met l yX11_clearText (.code yX11_clearText cX11_clearText 2 (some .int) :: zT) ({ frames := 0, cells := 0, slots := 0, locals := 0 }) (va_Pc [.ref (h 0)] (zM D [((h 0), .inr (11, [.ref (h 1), .ref (h 9), .int 0, .int 0, .ref (h 20), .ref (h 37), .int 0, .ref (h 38), .ref (h 42), .ref (h 43), .ref (h 44), .ref (h 45), .ref (h 46), .ref (h 47), .ref (h 48)])), ((h 38), .inr (10, [.ref (h 39), .int 0, .ref (h 40), .int 0, .ref (h 80), .int 0, .int 0]))] [] sz)) (va_Qi (fun (r : Int32) (_ : Unit) => r = 0) (fun _ t => zE D [] [] (va_A [((h 0), .inr (11, [.ref (h 1), .ref (h 9), .int 0, .int 0, .ref (h 20), .ref (h 37), .int 0, .ref (h 38), .ref (h 42), .ref (h 43), .ref (h 44), .ref (h 45), .ref (h 46), .ref (h 47), .ref (h 48)])), ((h 38), .inr (10, [.ref (h 39), .int 0, .ref (h 40), .int 0, .ref (h 80), .int 0, .int 0]))] sz) t) (va_A [((h 0), .inr (11, [.ref (h 1), .ref (h 9), .int 0, .int 0, .ref (h 20), .ref (h 37), .int 0, .ref (h 38), .ref (h 42), .ref (h 43), .ref (h 44), .ref (h 45), .ref (h 46), .ref (h 47), .ref (h 48)])), ((h 38), .inr (10, [.ref (h 39), .int 0, .ref (h 40), .int 0, .ref (h 80), .int 0, .int 0]))] sz)) 0 0 (va_A [((h 0), .inr (11, [.ref (h 1), .ref (h 9), .int 0, .int 0, .ref (h 20), .ref (h 37), .int 0, .ref (h 38), .ref (h 42), .ref (h 43), .ref (h 44), .ref (h 45), .ref (h 46), .ref (h 47), .ref (h 48)])), ((h 38), .inr (10, [.ref (h 39), .int 0, .ref (h 40), .int 0, .ref (h 80), .int 0, .int 0]))] sz) := by
  refine Met.ofW (cc := cX11_clearText) (maxL := 2) (ret := (some .int)) (by decide) rfl ?_
  intro p e s m args below meth c s₁ B hml hv
  obtain ⟨rfl, hsz, hP, hK, hD0⟩ := hv
  have hx := B.exec
  have hb := B.bytes
  have hr := B.returns
  have hts := atoms_spec (ws := (.code yX11_clearText cX11_clearText 2 (some .int) :: zT)) B.pre
  have ht : ∀ w ∈ zT, w.before _ s = true := fun w h => hts w (List.mem_cons_of_mem _ h)
  have hown : s.vm.findClass RX11 = some m.cls := findClass_of_methodNamed B.named
  have hlocks := B.notSynchronized
  subst hsz
  have hD := hD0.self (sz := s.heap.size)
  generalize hAe : va_A [((h 0), .inr (11, [.ref (h 1), .ref (h 9), .int 0, .int 0, .ref (h 20), .ref (h 37), .int 0, .ref (h 38), .ref (h 42), .ref (h 43), .ref (h 44), .ref (h 45), .ref (h 46), .ref (h 47), .ref (h 48)])), ((h 38), .inr (10, [.ref (h 39), .int 0, .ref (h 40), .int 0, .ref (h 80), .int 0, .int 0]))] s.heap.size = A at hD ⊢
  have hA : ∀ q : Nat, s.heap.size ≤ q → A q := fun q h => by rw [← hAe]; exact Or.inr h
  have hS : va_S A s.heap s.heap [] := va_S.rf
  have hP : va_P D vwCl [((h 0), .inr (11, [.ref (h 1), .ref (h 9), .int 0, .int 0, .ref (h 20), .ref (h 37), .int 0, .ref (h 38), .ref (h 42), .ref (h 43), .ref (h 44), .ref (h 45), .ref (h 46), .ref (h 47), .ref (h 48)])), ((h 38), .inr (10, [.ref (h 39), .int 0, .ref (h 40), .int 0, .ref (h 80), .int 0, .int 0]))] s.heap := hP
  have hl := lv_entry ([.ref (h 0)]) (n := 2) (Nat.le_of_ble_eq_true rfl)
  rw [lg_entry_eq]
  generalize (lg_sl ([.ref (h 0)]) ++ List.replicate (2 - (lg_sl ([.ref (h 0)])).length) Slot.unset).toArray = ls at hl ⊢
  have hl : lv_has ls 2 [(0, .ref (h 0))] := hl
  skip
  refine lv_aload_n hx hb dX11_clearText_0 rfl (lv_at hl 0 rfl) ?_
  refine va_get (D := D) (ci := 11) (v := .ref (h 38)) (C := RX11) (T := TX11) (N := 15) hx hb ht zinX11 hown hK hP 0 rfl rfl 7 (by decide) (ht _ zw_367) (fun _ h9 => h9) rfl dX11_clearText_1 ?_
  refine va_get (D := D) (ci := 10) (v := .int 0) (C := RX10) (T := TX10) (N := 7) hx hb ht zinX10 hown hK hP 1 rfl rfl 1 (by decide) (ht _ zw_442) (fun _ h9 => h9) rfl dX11_clearText_4 ?_
  refine lv_istore_n (lv' := [(1, .int 0), (0, .ref (h 0))]) hx hb dX11_clearText_7 rfl hl (by decide) rfl (fun ls hl => ?_)
  refine lv_aload_n hx hb dX11_clearText_8 rfl (lv_at hl 1 rfl) ?_
  refine va_get (D := D) (ci := 11) (v := .ref (h 38)) (C := RX11) (T := TX11) (N := 15) hx hb ht zinX11 hown hK hP 0 rfl rfl 7 (by decide) (ht _ zw_367) (fun _ h9 => h9) rfl dX11_clearText_9 ?_
  refine lv_iconst (v := 0) hx hb dX11_clearText_12 (by decide) ?_
  refine va_put (D := D) (ci := 10) (v := .int 0) (ty := .int) (C := RX10) (T := TX10) (N := 7) hx hb ht zinX10 tyX10 tyX10_ok nmX10 hown hK hP hD hS 1 rfl rfl 1 (by decide) (ht _ zw_442) (fun _ h9 => h9) rfl (by decide +kernel) rfl rfl (Nat.le_of_ble_eq_true rfl) dX11_clearText_13 (fun H locs hP hD hS => ?_)
  have hP : va_P D vwCl [((h 0), .inr (11, [.ref (h 1), .ref (h 9), .int 0, .int 0, .ref (h 20), .ref (h 37), .int 0, .ref (h 38), .ref (h 42), .ref (h 43), .ref (h 44), .ref (h 45), .ref (h 46), .ref (h 47), .ref (h 48)])), ((h 38), .inr (10, [.ref (h 39), .int 0, .ref (h 40), .int 0, .ref (h 80), .int 0, .int 0]))] H := hP
  have hD : va_D A [((h 0), .inr (11, [.ref (h 1), .ref (h 9), .int 0, .int 0, .ref (h 20), .ref (h 37), .int 0, .ref (h 38), .ref (h 42), .ref (h 43), .ref (h 44), .ref (h 45), .ref (h 46), .ref (h 47), .ref (h 48)])), ((h 38), .inr (10, [.ref (h 39), .int 0, .ref (h 40), .int 0, .ref (h 80), .int 0, .int 0]))] := hD
  refine lv_iload_n hx hb dX11_clearText_16 rfl (lv_at hl 0 rfl) ?_
  have hP9 := hP.sub (ws' := []) [] rfl
  have hD9 := hD.sub (ws' := []) [] (by decide) rfl
  have hK9 := hK.sub (tys' := []) [] rfl
  refine W.widen (k := 0) (n := 0) (Nat.le_of_ble_eq_true rfl) (Nat.le_of_ble_eq_true rfl) ?_
  exact W.iret (v := 0) hx hb hr (fun t ht0 hW => ⟨⟨0, (), rfl, rfl, (zE_of hP9 hK9 hD9 ht0 hW)⟩, hS.F ht0⟩) hS.2.2 dX11_clearText_17
set_option maxHeartbeats 4000000 in
set_option maxRecDepth 100000 in
theorem k_X11_meanLines (l : Launch) (sz : Nat) (D : va_G) (h cs : Nat → Nat) (fn : Nat → Option Nat) (hn : ∀ k : Nat, k < 4 → fn k = some (h 8)) : Met l yX11_meanLines (.code yX11_meanLines cX11_meanLines 4 (some .double) :: zT) ({ frames := 0, cells := 0, slots := 0, locals := 0 }) (va_Pc [.ref (h 0)] (zM D [((h 0), .inr (11, [.ref (h 1), .ref (h 9), .int 0, .int 0, .ref (h 20), .ref (h 37), .int 0, .ref (h 38), .ref (h 42), .ref (h 43), .ref (h 44), .ref (h 45), .ref (h 46), .ref (h 47), .ref (h 48)])), ((h 1), .inr (8, [.ref (h 2), .int 0, .ref (h 3), .ref (h 4), .int 0, .ref (h 5), .int 0, .ref (h 6), .int 0, .ref (h 7), .int 0])), ((h 7), .inl ((cs 0), 4, .inr (.inr (.inr (.inr fn))))), ((h 8), .inr (0, [.ref (h 102), .ref (h 103), .int 0]))] [((cs 0), .object RX0)] sz)) (va_Qd (fun (r : UInt64) (_ : Unit) => r = FP.dconst0) (fun _ t => zE D [] [] (va_A [((h 0), .inr (11, [.ref (h 1), .ref (h 9), .int 0, .int 0, .ref (h 20), .ref (h 37), .int 0, .ref (h 38), .ref (h 42), .ref (h 43), .ref (h 44), .ref (h 45), .ref (h 46), .ref (h 47), .ref (h 48)])), ((h 1), .inr (8, [.ref (h 2), .int 0, .ref (h 3), .ref (h 4), .int 0, .ref (h 5), .int 0, .ref (h 6), .int 0, .ref (h 7), .int 0])), ((h 7), .inl ((cs 0), 4, .inr (.inr (.inr (.inr fn))))), ((h 8), .inr (0, [.ref (h 102), .ref (h 103), .int 0]))] sz) t) (va_A [((h 0), .inr (11, [.ref (h 1), .ref (h 9), .int 0, .int 0, .ref (h 20), .ref (h 37), .int 0, .ref (h 38), .ref (h 42), .ref (h 43), .ref (h 44), .ref (h 45), .ref (h 46), .ref (h 47), .ref (h 48)])), ((h 1), .inr (8, [.ref (h 2), .int 0, .ref (h 3), .ref (h 4), .int 0, .ref (h 5), .int 0, .ref (h 6), .int 0, .ref (h 7), .int 0])), ((h 7), .inl ((cs 0), 4, .inr (.inr (.inr (.inr fn))))), ((h 8), .inr (0, [.ref (h 102), .ref (h 103), .int 0]))] sz)) 0 0 (va_A [((h 0), .inr (11, [.ref (h 1), .ref (h 9), .int 0, .int 0, .ref (h 20), .ref (h 37), .int 0, .ref (h 38), .ref (h 42), .ref (h 43), .ref (h 44), .ref (h 45), .ref (h 46), .ref (h 47), .ref (h 48)])), ((h 1), .inr (8, [.ref (h 2), .int 0, .ref (h 3), .ref (h 4), .int 0, .ref (h 5), .int 0, .ref (h 6), .int 0, .ref (h 7), .int 0])), ((h 7), .inl ((cs 0), 4, .inr (.inr (.inr (.inr fn))))), ((h 8), .inr (0, [.ref (h 102), .ref (h 103), .int 0]))] sz) := by
  refine Met.ofW (cc := cX11_meanLines) (maxL := 4) (ret := (some .double)) (by decide) rfl ?_
  intro p e s m args below meth c s₁ B hml hv
  obtain ⟨rfl, hsz, hP, hK, hD0⟩ := hv
  have hx := B.exec
  have hb := B.bytes
  have hr := B.returns
  have hts := atoms_spec (ws := (.code yX11_meanLines cX11_meanLines 4 (some .double) :: zT)) B.pre
  have ht : ∀ w ∈ zT, w.before _ s = true := fun w h => hts w (List.mem_cons_of_mem _ h)
  have hown : s.vm.findClass RX11 = some m.cls := findClass_of_methodNamed B.named
  have hlocks := B.notSynchronized
  subst hsz
  have hD := hD0.self (sz := s.heap.size)
  generalize hAe : va_A [((h 0), .inr (11, [.ref (h 1), .ref (h 9), .int 0, .int 0, .ref (h 20), .ref (h 37), .int 0, .ref (h 38), .ref (h 42), .ref (h 43), .ref (h 44), .ref (h 45), .ref (h 46), .ref (h 47), .ref (h 48)])), ((h 1), .inr (8, [.ref (h 2), .int 0, .ref (h 3), .ref (h 4), .int 0, .ref (h 5), .int 0, .ref (h 6), .int 0, .ref (h 7), .int 0])), ((h 7), .inl ((cs 0), 4, .inr (.inr (.inr (.inr fn))))), ((h 8), .inr (0, [.ref (h 102), .ref (h 103), .int 0]))] s.heap.size = A at hD ⊢
  have hA : ∀ q : Nat, s.heap.size ≤ q → A q := fun q h => by rw [← hAe]; exact Or.inr h
  have hS : va_S A s.heap s.heap [] := va_S.rf
  have hP : va_P D vwCl [((h 0), .inr (11, [.ref (h 1), .ref (h 9), .int 0, .int 0, .ref (h 20), .ref (h 37), .int 0, .ref (h 38), .ref (h 42), .ref (h 43), .ref (h 44), .ref (h 45), .ref (h 46), .ref (h 47), .ref (h 48)])), ((h 1), .inr (8, [.ref (h 2), .int 0, .ref (h 3), .ref (h 4), .int 0, .ref (h 5), .int 0, .ref (h 6), .int 0, .ref (h 7), .int 0])), ((h 7), .inl ((cs 0), 4, .inr (.inr (.inr (.inr fn))))), ((h 8), .inr (0, [.ref (h 102), .ref (h 103), .int 0]))] s.heap := hP
  have hl := lv_entry ([.ref (h 0)]) (n := 4) (Nat.le_of_ble_eq_true rfl)
  rw [lg_entry_eq]
  generalize (lg_sl ([.ref (h 0)]) ++ List.replicate (4 - (lg_sl ([.ref (h 0)])).length) Slot.unset).toArray = ls at hl ⊢
  have hl : lv_has ls 4 [(0, .ref (h 0))] := hl
  skip
  refine lv_iconst (v := 0) hx hb dX11_meanLines_0 (by decide) ?_
  refine lv_istore_n (lv' := [(1, .int 0), (0, .ref (h 0))]) hx hb dX11_meanLines_1 rfl hl (by decide) rfl (fun ls hl => ?_)
  refine lv_iconst (v := 0) hx hb dX11_meanLines_2 (by decide) ?_
  refine lv_istore_n (lv' := [(2, .int 0), (1, .int 0), (0, .ref (h 0))]) hx hb dX11_meanLines_3 rfl hl (by decide) rfl (fun ls hl => ?_)
  refine lv_iconst (v := 0) hx hb dX11_meanLines_4 (by decide) ?_
  refine lv_istore_n (lv' := [(3, .int 0), (2, .int 0), (1, .int 0), (0, .ref (h 0))]) hx hb dX11_meanLines_5 rfl hl (by decide) rfl (fun ls hl => ?_)
  refine lv_iload_n hx hb dX11_meanLines_6 rfl (lv_at hl 0 rfl) ?_
  refine lv_iconst (v := 4) hx hb dX11_meanLines_7 (by decide) ?_
  refine lv_icmp_ge (tgt := 55) hx hb dX11_meanLines_8 (by decide) (fun c_1 => ?_) (fun c_1 => ?_)
  · skip
    exact absurd c_1 (by decide)
  · skip
    refine lv_iload_n hx hb dX11_meanLines_11 rfl (lv_at hl 2 rfl) ?_
    refine lv_aload_n hx hb dX11_meanLines_12 rfl (lv_at hl 3 rfl) ?_
    refine va_get (D := D) (ci := 11) (v := .ref (h 1)) (C := RX11) (T := TX11) (N := 15) hx hb ht zinX11 hown hK hP 0 rfl rfl 0 (by decide) (ht _ zw_353) (fun _ h9 => h9) rfl dX11_meanLines_13 ?_
    refine va_get (D := D) (ci := 8) (v := .ref (h 7)) (C := RX8) (T := TX8) (N := 11) hx hb ht zinX8 hown hK hP 1 rfl rfl 9 (by decide) (ht _ zw_452) (fun _ h9 => h9) rfl dX11_meanLines_16 ?_
    refine lv_iload_n hx hb dX11_meanLines_19 rfl (lv_at hl 0 rfl) ?_
    refine va_aldq hx hb hK hP 2 0 rfl rfl (vp_in_iff.mpr (by decide)) dX11_meanLines_20 ?_
    refine W.eq (g2 := F0 m 21 ls (.ref (h 8) :: .int 0 :: [])) (by show F0 m _ ls (va_rf (fn 0) :: _) = _; rw [hn _ (by decide)]; rfl) ?_
    refine va_get (D := D) (ci := 0) (v := .int 0) (C := RX0) (T := TX0) (N := 3) hx hb ht zinX0 hown hK hP 3 rfl rfl 2 (by decide) (ht _ zw_453) (fun _ h9 => h9) rfl dX11_meanLines_21 ?_
    refine lv_iadd hx hb dX11_meanLines_24 ?_
    refine lv_topi (fun x_3 e_3 => ?_)
    obtain rfl : x_3 = 0 := e_3.trans (by decide)
    refine lv_istore_n (lv' := [(1, .int 0), (3, .int 0), (2, .int 0), (0, .ref (h 0))]) hx hb dX11_meanLines_25 rfl hl (by decide) rfl (fun ls hl => ?_)
    refine lv_iload_n hx hb dX11_meanLines_26 rfl (lv_at hl 2 rfl) ?_
    refine lv_aload_n hx hb dX11_meanLines_27 rfl (lv_at hl 3 rfl) ?_
    refine va_get (D := D) (ci := 11) (v := .ref (h 1)) (C := RX11) (T := TX11) (N := 15) hx hb ht zinX11 hown hK hP 0 rfl rfl 0 (by decide) (ht _ zw_353) (fun _ h9 => h9) rfl dX11_meanLines_28 ?_
    refine va_get (D := D) (ci := 8) (v := .ref (h 7)) (C := RX8) (T := TX8) (N := 11) hx hb ht zinX8 hown hK hP 1 rfl rfl 9 (by decide) (ht _ zw_452) (fun _ h9 => h9) rfl dX11_meanLines_31 ?_
    refine lv_iload_n hx hb dX11_meanLines_34 rfl (lv_at hl 1 rfl) ?_
    refine va_aldq hx hb hK hP 2 0 rfl rfl (vp_in_iff.mpr (by decide)) dX11_meanLines_35 ?_
    refine W.eq (g2 := F0 m 36 ls (.ref (h 8) :: .int 0 :: [])) (by show F0 m _ ls (va_rf (fn 0) :: _) = _; rw [hn _ (by decide)]; rfl) ?_
    refine va_get (D := D) (ci := 0) (v := .int 0) (C := RX0) (T := TX0) (N := 3) hx hb ht zinX0 hown hK hP 3 rfl rfl 2 (by decide) (ht _ zw_453) (fun _ h9 => h9) rfl dX11_meanLines_36 ?_
    refine lv_if_le (tgt := 46) hx hb dX11_meanLines_39 (by decide) (fun c_5 => ?_) (fun c_5 => ?_)
    · skip
      refine lv_iconst (v := 0) hx hb dX11_meanLines_46 (by decide) ?_
      refine lv_iadd hx hb dX11_meanLines_47 ?_
      refine lv_topi (fun x_6 e_6 => ?_)
      obtain rfl : x_6 = 0 := e_6.trans (by decide)
      refine lv_istore_n (lv' := [(2, .int 0), (1, .int 0), (3, .int 0), (0, .ref (h 0))]) hx hb dX11_meanLines_48 rfl hl (by decide) rfl (fun ls hl => ?_)
      refine lv_iinc (v := 1) (lv' := [(3, .int 1), (2, .int 0), (1, .int 0), (0, .ref (h 0))]) hx hb dX11_meanLines_49 hl (k := 2) rfl (by decide) (by decide) rfl (fun ls hl => ?_)
      refine lv_goto (tgt := 6) hx hb dX11_meanLines_52 (by decide) ?_
      refine lv_iload_n hx hb dX11_meanLines_6 rfl (lv_at hl 0 rfl) ?_
      refine lv_iconst (v := 4) hx hb dX11_meanLines_7 (by decide) ?_
      refine lv_icmp_ge (tgt := 55) hx hb dX11_meanLines_8 (by decide) (fun c_8 => ?_) (fun c_8 => ?_)
      · skip
        exact absurd c_8 (by decide)
      · skip
        refine lv_iload_n hx hb dX11_meanLines_11 rfl (lv_at hl 2 rfl) ?_
        refine lv_aload_n hx hb dX11_meanLines_12 rfl (lv_at hl 3 rfl) ?_
        refine va_get (D := D) (ci := 11) (v := .ref (h 1)) (C := RX11) (T := TX11) (N := 15) hx hb ht zinX11 hown hK hP 0 rfl rfl 0 (by decide) (ht _ zw_353) (fun _ h9 => h9) rfl dX11_meanLines_13 ?_
        refine va_get (D := D) (ci := 8) (v := .ref (h 7)) (C := RX8) (T := TX8) (N := 11) hx hb ht zinX8 hown hK hP 1 rfl rfl 9 (by decide) (ht _ zw_452) (fun _ h9 => h9) rfl dX11_meanLines_16 ?_
        refine lv_iload_n hx hb dX11_meanLines_19 rfl (lv_at hl 0 rfl) ?_
        refine va_aldq hx hb hK hP 2 0 rfl rfl (vp_in_iff.mpr (by decide)) dX11_meanLines_20 ?_
        refine W.eq (g2 := F0 m 21 ls (.ref (h 8) :: .int 0 :: [])) (by show F0 m _ ls (va_rf (fn 1) :: _) = _; rw [hn _ (by decide)]; rfl) ?_
        refine va_get (D := D) (ci := 0) (v := .int 0) (C := RX0) (T := TX0) (N := 3) hx hb ht zinX0 hown hK hP 3 rfl rfl 2 (by decide) (ht _ zw_453) (fun _ h9 => h9) rfl dX11_meanLines_21 ?_
        refine lv_iadd hx hb dX11_meanLines_24 ?_
        refine lv_topi (fun x_10 e_10 => ?_)
        obtain rfl : x_10 = 0 := e_10.trans (by decide)
        refine lv_istore_n (lv' := [(1, .int 0), (3, .int 1), (2, .int 0), (0, .ref (h 0))]) hx hb dX11_meanLines_25 rfl hl (by decide) rfl (fun ls hl => ?_)
        refine lv_iload_n hx hb dX11_meanLines_26 rfl (lv_at hl 2 rfl) ?_
        refine lv_aload_n hx hb dX11_meanLines_27 rfl (lv_at hl 3 rfl) ?_
        refine va_get (D := D) (ci := 11) (v := .ref (h 1)) (C := RX11) (T := TX11) (N := 15) hx hb ht zinX11 hown hK hP 0 rfl rfl 0 (by decide) (ht _ zw_353) (fun _ h9 => h9) rfl dX11_meanLines_28 ?_
        refine va_get (D := D) (ci := 8) (v := .ref (h 7)) (C := RX8) (T := TX8) (N := 11) hx hb ht zinX8 hown hK hP 1 rfl rfl 9 (by decide) (ht _ zw_452) (fun _ h9 => h9) rfl dX11_meanLines_31 ?_
        refine lv_iload_n hx hb dX11_meanLines_34 rfl (lv_at hl 1 rfl) ?_
        refine va_aldq hx hb hK hP 2 0 rfl rfl (vp_in_iff.mpr (by decide)) dX11_meanLines_35 ?_
        refine W.eq (g2 := F0 m 36 ls (.ref (h 8) :: .int 0 :: [])) (by show F0 m _ ls (va_rf (fn 1) :: _) = _; rw [hn _ (by decide)]; rfl) ?_
        refine va_get (D := D) (ci := 0) (v := .int 0) (C := RX0) (T := TX0) (N := 3) hx hb ht zinX0 hown hK hP 3 rfl rfl 2 (by decide) (ht _ zw_453) (fun _ h9 => h9) rfl dX11_meanLines_36 ?_
        refine lv_if_le (tgt := 46) hx hb dX11_meanLines_39 (by decide) (fun c_12 => ?_) (fun c_12 => ?_)
        · skip
          refine lv_iconst (v := 0) hx hb dX11_meanLines_46 (by decide) ?_
          refine lv_iadd hx hb dX11_meanLines_47 ?_
          refine lv_topi (fun x_13 e_13 => ?_)
          obtain rfl : x_13 = 0 := e_13.trans (by decide)
          refine lv_istore_n (lv' := [(2, .int 0), (1, .int 0), (3, .int 1), (0, .ref (h 0))]) hx hb dX11_meanLines_48 rfl hl (by decide) rfl (fun ls hl => ?_)
          refine lv_iinc (v := 2) (lv' := [(3, .int 2), (2, .int 0), (1, .int 0), (0, .ref (h 0))]) hx hb dX11_meanLines_49 hl (k := 2) rfl (by decide) (by decide) rfl (fun ls hl => ?_)
          refine lv_goto (tgt := 6) hx hb dX11_meanLines_52 (by decide) ?_
          refine lv_iload_n hx hb dX11_meanLines_6 rfl (lv_at hl 0 rfl) ?_
          refine lv_iconst (v := 4) hx hb dX11_meanLines_7 (by decide) ?_
          refine lv_icmp_ge (tgt := 55) hx hb dX11_meanLines_8 (by decide) (fun c_15 => ?_) (fun c_15 => ?_)
          · skip
            exact absurd c_15 (by decide)
          · skip
            refine lv_iload_n hx hb dX11_meanLines_11 rfl (lv_at hl 2 rfl) ?_
            refine lv_aload_n hx hb dX11_meanLines_12 rfl (lv_at hl 3 rfl) ?_
            refine va_get (D := D) (ci := 11) (v := .ref (h 1)) (C := RX11) (T := TX11) (N := 15) hx hb ht zinX11 hown hK hP 0 rfl rfl 0 (by decide) (ht _ zw_353) (fun _ h9 => h9) rfl dX11_meanLines_13 ?_
            refine va_get (D := D) (ci := 8) (v := .ref (h 7)) (C := RX8) (T := TX8) (N := 11) hx hb ht zinX8 hown hK hP 1 rfl rfl 9 (by decide) (ht _ zw_452) (fun _ h9 => h9) rfl dX11_meanLines_16 ?_
            refine lv_iload_n hx hb dX11_meanLines_19 rfl (lv_at hl 0 rfl) ?_
            refine va_aldq hx hb hK hP 2 0 rfl rfl (vp_in_iff.mpr (by decide)) dX11_meanLines_20 ?_
            refine W.eq (g2 := F0 m 21 ls (.ref (h 8) :: .int 0 :: [])) (by show F0 m _ ls (va_rf (fn 2) :: _) = _; rw [hn _ (by decide)]; rfl) ?_
            refine va_get (D := D) (ci := 0) (v := .int 0) (C := RX0) (T := TX0) (N := 3) hx hb ht zinX0 hown hK hP 3 rfl rfl 2 (by decide) (ht _ zw_453) (fun _ h9 => h9) rfl dX11_meanLines_21 ?_
            refine lv_iadd hx hb dX11_meanLines_24 ?_
            refine lv_topi (fun x_17 e_17 => ?_)
            obtain rfl : x_17 = 0 := e_17.trans (by decide)
            refine lv_istore_n (lv' := [(1, .int 0), (3, .int 2), (2, .int 0), (0, .ref (h 0))]) hx hb dX11_meanLines_25 rfl hl (by decide) rfl (fun ls hl => ?_)
            refine lv_iload_n hx hb dX11_meanLines_26 rfl (lv_at hl 2 rfl) ?_
            refine lv_aload_n hx hb dX11_meanLines_27 rfl (lv_at hl 3 rfl) ?_
            refine va_get (D := D) (ci := 11) (v := .ref (h 1)) (C := RX11) (T := TX11) (N := 15) hx hb ht zinX11 hown hK hP 0 rfl rfl 0 (by decide) (ht _ zw_353) (fun _ h9 => h9) rfl dX11_meanLines_28 ?_
            refine va_get (D := D) (ci := 8) (v := .ref (h 7)) (C := RX8) (T := TX8) (N := 11) hx hb ht zinX8 hown hK hP 1 rfl rfl 9 (by decide) (ht _ zw_452) (fun _ h9 => h9) rfl dX11_meanLines_31 ?_
            refine lv_iload_n hx hb dX11_meanLines_34 rfl (lv_at hl 1 rfl) ?_
            refine va_aldq hx hb hK hP 2 0 rfl rfl (vp_in_iff.mpr (by decide)) dX11_meanLines_35 ?_
            refine W.eq (g2 := F0 m 36 ls (.ref (h 8) :: .int 0 :: [])) (by show F0 m _ ls (va_rf (fn 2) :: _) = _; rw [hn _ (by decide)]; rfl) ?_
            refine va_get (D := D) (ci := 0) (v := .int 0) (C := RX0) (T := TX0) (N := 3) hx hb ht zinX0 hown hK hP 3 rfl rfl 2 (by decide) (ht _ zw_453) (fun _ h9 => h9) rfl dX11_meanLines_36 ?_
            refine lv_if_le (tgt := 46) hx hb dX11_meanLines_39 (by decide) (fun c_19 => ?_) (fun c_19 => ?_)
            · skip
              refine lv_iconst (v := 0) hx hb dX11_meanLines_46 (by decide) ?_
              refine lv_iadd hx hb dX11_meanLines_47 ?_
              refine lv_topi (fun x_20 e_20 => ?_)
              obtain rfl : x_20 = 0 := e_20.trans (by decide)
              refine lv_istore_n (lv' := [(2, .int 0), (1, .int 0), (3, .int 2), (0, .ref (h 0))]) hx hb dX11_meanLines_48 rfl hl (by decide) rfl (fun ls hl => ?_)
              refine lv_iinc (v := 3) (lv' := [(3, .int 3), (2, .int 0), (1, .int 0), (0, .ref (h 0))]) hx hb dX11_meanLines_49 hl (k := 2) rfl (by decide) (by decide) rfl (fun ls hl => ?_)
              refine lv_goto (tgt := 6) hx hb dX11_meanLines_52 (by decide) ?_
              refine lv_iload_n hx hb dX11_meanLines_6 rfl (lv_at hl 0 rfl) ?_
              refine lv_iconst (v := 4) hx hb dX11_meanLines_7 (by decide) ?_
              refine lv_icmp_ge (tgt := 55) hx hb dX11_meanLines_8 (by decide) (fun c_22 => ?_) (fun c_22 => ?_)
              · skip
                exact absurd c_22 (by decide)
              · skip
                refine lv_iload_n hx hb dX11_meanLines_11 rfl (lv_at hl 2 rfl) ?_
                refine lv_aload_n hx hb dX11_meanLines_12 rfl (lv_at hl 3 rfl) ?_
                refine va_get (D := D) (ci := 11) (v := .ref (h 1)) (C := RX11) (T := TX11) (N := 15) hx hb ht zinX11 hown hK hP 0 rfl rfl 0 (by decide) (ht _ zw_353) (fun _ h9 => h9) rfl dX11_meanLines_13 ?_
                refine va_get (D := D) (ci := 8) (v := .ref (h 7)) (C := RX8) (T := TX8) (N := 11) hx hb ht zinX8 hown hK hP 1 rfl rfl 9 (by decide) (ht _ zw_452) (fun _ h9 => h9) rfl dX11_meanLines_16 ?_
                refine lv_iload_n hx hb dX11_meanLines_19 rfl (lv_at hl 0 rfl) ?_
                refine va_aldq hx hb hK hP 2 0 rfl rfl (vp_in_iff.mpr (by decide)) dX11_meanLines_20 ?_
                refine W.eq (g2 := F0 m 21 ls (.ref (h 8) :: .int 0 :: [])) (by show F0 m _ ls (va_rf (fn 3) :: _) = _; rw [hn _ (by decide)]; rfl) ?_
                refine va_get (D := D) (ci := 0) (v := .int 0) (C := RX0) (T := TX0) (N := 3) hx hb ht zinX0 hown hK hP 3 rfl rfl 2 (by decide) (ht _ zw_453) (fun _ h9 => h9) rfl dX11_meanLines_21 ?_
                refine lv_iadd hx hb dX11_meanLines_24 ?_
                refine lv_topi (fun x_24 e_24 => ?_)
                obtain rfl : x_24 = 0 := e_24.trans (by decide)
                refine lv_istore_n (lv' := [(1, .int 0), (3, .int 3), (2, .int 0), (0, .ref (h 0))]) hx hb dX11_meanLines_25 rfl hl (by decide) rfl (fun ls hl => ?_)
                refine lv_iload_n hx hb dX11_meanLines_26 rfl (lv_at hl 2 rfl) ?_
                refine lv_aload_n hx hb dX11_meanLines_27 rfl (lv_at hl 3 rfl) ?_
                refine va_get (D := D) (ci := 11) (v := .ref (h 1)) (C := RX11) (T := TX11) (N := 15) hx hb ht zinX11 hown hK hP 0 rfl rfl 0 (by decide) (ht _ zw_353) (fun _ h9 => h9) rfl dX11_meanLines_28 ?_
                refine va_get (D := D) (ci := 8) (v := .ref (h 7)) (C := RX8) (T := TX8) (N := 11) hx hb ht zinX8 hown hK hP 1 rfl rfl 9 (by decide) (ht _ zw_452) (fun _ h9 => h9) rfl dX11_meanLines_31 ?_
                refine lv_iload_n hx hb dX11_meanLines_34 rfl (lv_at hl 1 rfl) ?_
                refine va_aldq hx hb hK hP 2 0 rfl rfl (vp_in_iff.mpr (by decide)) dX11_meanLines_35 ?_
                refine W.eq (g2 := F0 m 36 ls (.ref (h 8) :: .int 0 :: [])) (by show F0 m _ ls (va_rf (fn 3) :: _) = _; rw [hn _ (by decide)]; rfl) ?_
                refine va_get (D := D) (ci := 0) (v := .int 0) (C := RX0) (T := TX0) (N := 3) hx hb ht zinX0 hown hK hP 3 rfl rfl 2 (by decide) (ht _ zw_453) (fun _ h9 => h9) rfl dX11_meanLines_36 ?_
                refine lv_if_le (tgt := 46) hx hb dX11_meanLines_39 (by decide) (fun c_26 => ?_) (fun c_26 => ?_)
                · skip
                  refine lv_iconst (v := 0) hx hb dX11_meanLines_46 (by decide) ?_
                  refine lv_iadd hx hb dX11_meanLines_47 ?_
                  refine lv_topi (fun x_27 e_27 => ?_)
                  obtain rfl : x_27 = 0 := e_27.trans (by decide)
                  refine lv_istore_n (lv' := [(2, .int 0), (1, .int 0), (3, .int 3), (0, .ref (h 0))]) hx hb dX11_meanLines_48 rfl hl (by decide) rfl (fun ls hl => ?_)
                  refine lv_iinc (v := 4) (lv' := [(3, .int 4), (2, .int 0), (1, .int 0), (0, .ref (h 0))]) hx hb dX11_meanLines_49 hl (k := 2) rfl (by decide) (by decide) rfl (fun ls hl => ?_)
                  refine lv_goto (tgt := 6) hx hb dX11_meanLines_52 (by decide) ?_
                  refine lv_iload_n hx hb dX11_meanLines_6 rfl (lv_at hl 0 rfl) ?_
                  refine lv_iconst (v := 4) hx hb dX11_meanLines_7 (by decide) ?_
                  refine lv_icmp_ge (tgt := 55) hx hb dX11_meanLines_8 (by decide) (fun c_29 => ?_) (fun c_29 => ?_)
                  · skip
                    refine lv_iload_n hx hb dX11_meanLines_55 rfl (lv_at hl 1 rfl) ?_
                    refine lv_if_ne (tgt := 63) hx hb dX11_meanLines_56 (by decide) (fun c_30 => ?_) (fun c_30 => ?_)
                    · skip
                      exact absurd c_30 (by decide)
                    · skip
                      refine lv_dconst0 hx hb dX11_meanLines_59 ?_
                      refine lv_goto (tgt := 68) hx hb dX11_meanLines_60 (by decide) ?_
                      have hP9 := hP.sub (ws' := []) [] rfl
                      have hD9 := hD.sub (ws' := []) [] (by decide) rfl
                      have hK9 := hK.sub (tys' := []) [] rfl
                      refine W.widen (k := 0) (n := 0) (Nat.le_of_ble_eq_true rfl) (Nat.le_of_ble_eq_true rfl) ?_
                      exact W.dret (v := FP.dconst0) hx hb hr (fun t ht0 hW => ⟨⟨FP.dconst0, (), rfl, rfl, (zE_of hP9 hK9 hD9 ht0 hW)⟩, hS.F ht0⟩) hS.2.2 dX11_meanLines_68
                  · skip
                    exact absurd c_29 (by decide)
                · skip
                  exact absurd c_26 (by decide)
            · skip
              exact absurd c_19 (by decide)
        · skip
          exact absurd c_12 (by decide)
    · skip
      exact absurd c_5 (by decide)
set_option maxHeartbeats 4000000 in
set_option maxRecDepth 100000 in
theorem k_X11_checksum (l : Launch) (sz : Nat) (D : va_G) (h cs : Nat → Nat) : Met l yX11_checksum (.code yX11_checksum cX11_checksum 5 (some .long) :: zT) ({ frames := 0, cells := 0, slots := 0, locals := 0 }) (va_Pc [.ref (h 0)] (zM D [((h 0), .inr (11, [.ref (h 1), .ref (h 9), .int 0, .int 0, .ref (h 20), .ref (h 37), .int 0, .ref (h 38), .ref (h 42), .ref (h 43), .ref (h 44), .ref (h 45), .ref (h 46), .ref (h 47), .ref (h 48)])), ((h 1), .inr (8, [.ref (h 2), .int 0, .ref (h 3), .ref (h 4), .int 0, .ref (h 5), .int 0, .ref (h 6), .int 0, .ref (h 7), .int 0])), ((h 4), .inl ((cs 4), 100, .inr (.inr (.inr (.inr (fun _ => none))))))] [((cs 4), .object RX4)] sz)) (va_Ql (fun (r : Int64) (_ : Unit) => r = 7) (fun _ t => zE D [] [] (va_A [((h 0), .inr (11, [.ref (h 1), .ref (h 9), .int 0, .int 0, .ref (h 20), .ref (h 37), .int 0, .ref (h 38), .ref (h 42), .ref (h 43), .ref (h 44), .ref (h 45), .ref (h 46), .ref (h 47), .ref (h 48)])), ((h 1), .inr (8, [.ref (h 2), .int 0, .ref (h 3), .ref (h 4), .int 0, .ref (h 5), .int 0, .ref (h 6), .int 0, .ref (h 7), .int 0])), ((h 4), .inl ((cs 4), 100, .inr (.inr (.inr (.inr (fun _ => none))))))] sz) t) (va_A [((h 0), .inr (11, [.ref (h 1), .ref (h 9), .int 0, .int 0, .ref (h 20), .ref (h 37), .int 0, .ref (h 38), .ref (h 42), .ref (h 43), .ref (h 44), .ref (h 45), .ref (h 46), .ref (h 47), .ref (h 48)])), ((h 1), .inr (8, [.ref (h 2), .int 0, .ref (h 3), .ref (h 4), .int 0, .ref (h 5), .int 0, .ref (h 6), .int 0, .ref (h 7), .int 0])), ((h 4), .inl ((cs 4), 100, .inr (.inr (.inr (.inr (fun _ => none))))))] sz)) 0 0 (va_A [((h 0), .inr (11, [.ref (h 1), .ref (h 9), .int 0, .int 0, .ref (h 20), .ref (h 37), .int 0, .ref (h 38), .ref (h 42), .ref (h 43), .ref (h 44), .ref (h 45), .ref (h 46), .ref (h 47), .ref (h 48)])), ((h 1), .inr (8, [.ref (h 2), .int 0, .ref (h 3), .ref (h 4), .int 0, .ref (h 5), .int 0, .ref (h 6), .int 0, .ref (h 7), .int 0])), ((h 4), .inl ((cs 4), 100, .inr (.inr (.inr (.inr (fun _ => none))))))] sz) := by
  refine Met.ofW (cc := cX11_checksum) (maxL := 5) (ret := (some .long)) (by decide) rfl ?_
  intro p e s m args below meth c s₁ B hml hv
  obtain ⟨rfl, hsz, hP, hK, hD0⟩ := hv
  have hx := B.exec
  have hb := B.bytes
  have hr := B.returns
  have hts := atoms_spec (ws := (.code yX11_checksum cX11_checksum 5 (some .long) :: zT)) B.pre
  have ht : ∀ w ∈ zT, w.before _ s = true := fun w h => hts w (List.mem_cons_of_mem _ h)
  have hown : s.vm.findClass RX11 = some m.cls := findClass_of_methodNamed B.named
  have hlocks := B.notSynchronized
  subst hsz
  have hD := hD0.self (sz := s.heap.size)
  generalize hAe : va_A [((h 0), .inr (11, [.ref (h 1), .ref (h 9), .int 0, .int 0, .ref (h 20), .ref (h 37), .int 0, .ref (h 38), .ref (h 42), .ref (h 43), .ref (h 44), .ref (h 45), .ref (h 46), .ref (h 47), .ref (h 48)])), ((h 1), .inr (8, [.ref (h 2), .int 0, .ref (h 3), .ref (h 4), .int 0, .ref (h 5), .int 0, .ref (h 6), .int 0, .ref (h 7), .int 0])), ((h 4), .inl ((cs 4), 100, .inr (.inr (.inr (.inr (fun _ => none))))))] s.heap.size = A at hD ⊢
  have hA : ∀ q : Nat, s.heap.size ≤ q → A q := fun q h => by rw [← hAe]; exact Or.inr h
  have hS : va_S A s.heap s.heap [] := va_S.rf
  have hP : va_P D vwCl [((h 0), .inr (11, [.ref (h 1), .ref (h 9), .int 0, .int 0, .ref (h 20), .ref (h 37), .int 0, .ref (h 38), .ref (h 42), .ref (h 43), .ref (h 44), .ref (h 45), .ref (h 46), .ref (h 47), .ref (h 48)])), ((h 1), .inr (8, [.ref (h 2), .int 0, .ref (h 3), .ref (h 4), .int 0, .ref (h 5), .int 0, .ref (h 6), .int 0, .ref (h 7), .int 0])), ((h 4), .inl ((cs 4), 100, .inr (.inr (.inr (.inr (fun _ => none))))))] s.heap := hP
  have hl := lv_entry ([.ref (h 0)]) (n := 5) (Nat.le_of_ble_eq_true rfl)
  rw [lg_entry_eq]
  generalize (lg_sl ([.ref (h 0)]) ++ List.replicate (5 - (lg_sl ([.ref (h 0)])).length) Slot.unset).toArray = ls at hl ⊢
  have hl : lv_has ls 5 [(0, .ref (h 0))] := hl
  skip
  refine lv_ldc2 (v := 7) hx hb hown (ht _ zw_469) dX11_checksum_0 ?_
  refine lv_lstore_n (lv' := [(1, .long 7), (0, .ref (h 0))]) hx hb dX11_checksum_3 rfl hl (by decide) rfl (fun ls hl => ?_)
  refine lv_iconst (v := 0) hx hb dX11_checksum_4 (by decide) ?_
  refine lv_istore_n (lv' := [(3, .int 0), (1, .long 7), (0, .ref (h 0))]) hx hb dX11_checksum_5 rfl hl (by decide) rfl (fun ls hl => ?_)
  have hloop_1 : ∀ (n_1 : Nat) (x3 : Int32), 0 ≤ x3.toInt → x3.toInt ≤ 100 → 100 - x3.toInt < n_1 → ∀ (ls : Array Slot), lv_has ls 5 [(3, .int x3), (1, .long 7), (0, .ref (h 0))] → W p l e (headSpec (.code yX11_checksum cX11_checksum 5 (some .long) :: zT) ({ frames := 0, cells := 0, slots := 0, locals := 0 })).room s m (([.ref (h 0)] : List Value)).toArray below meth c s.heap [] 0 0 (MQ below (va_Ql (fun (r : Int64) (_ : Unit) => r = 7) (fun _ t => zE D [] [] A t) A) (([.ref (h 0)] : List Value)).toArray s 0 0 A) (F0 m 6 ls []) := by
    intro n_1
    induction n_1 with
    | zero => intro x3 hx0 hx1 hx2; intros; exfalso; omega
    | succ n_1 ih_1 =>
      intro x3 hlo_1 hhi_1 hms_1 ls hl
      refine lv_iload_n hx hb dX11_checksum_6 rfl (lv_at hl 0 rfl) ?_
      refine lv_bipush (v := 100) hx hb dX11_checksum_7 (by decide) ?_
      refine lv_icmp_ge (tgt := 71) hx hb dX11_checksum_9 (by decide) (fun c_2 => ?_) (fun c_2 => ?_)
      · skip
        simp only [fa_lt, fa_le, fa_eq, Int32.reduceToInt] at c_2
        refine lv_lload_n hx hb dX11_checksum_71 rfl (lv_at hl 1 rfl) ?_
        have hP9 := hP.sub (ws' := []) [] rfl
        have hD9 := hD.sub (ws' := []) [] (by decide) rfl
        have hK9 := hK.sub (tys' := []) [] rfl
        refine W.widen (k := 0) (n := 0) (Nat.le_of_ble_eq_true rfl) (Nat.le_of_ble_eq_true rfl) ?_
        exact W.lret (v := 7) hx hb hr (fun t ht0 hW => ⟨⟨7, (), rfl, rfl, (zE_of hP9 hK9 hD9 ht0 hW)⟩, hS.F ht0⟩) hS.2.2 dX11_checksum_72
      · skip
        simp only [fa_lt, fa_le, fa_eq, Int32.reduceToInt] at c_2
        refine lv_aload_n hx hb dX11_checksum_12 rfl (lv_at hl 2 rfl) ?_
        refine va_get (D := D) (ci := 11) (v := .ref (h 1)) (C := RX11) (T := TX11) (N := 15) hx hb ht zinX11 hown hK hP 0 rfl rfl 0 (by decide) (ht _ zw_353) (fun _ h9 => h9) rfl dX11_checksum_13 ?_
        refine va_get (D := D) (ci := 8) (v := .ref (h 4)) (C := RX8) (T := TX8) (N := 11) hx hb ht zinX8 hown hK hP 1 rfl rfl 3 (by decide) (ht _ zw_470) (fun _ h9 => h9) rfl dX11_checksum_16 ?_
        refine lv_iload_n hx hb dX11_checksum_19 rfl (lv_at hl 0 rfl) ?_
        refine va_aldq hx hb hK hP 2 0 rfl rfl (vp_in_iff.mpr ⟨by omega, by omega⟩) dX11_checksum_20 ?_
        refine W.eq (g2 := F0 m 21 ls (.null :: [])) rfl ?_
        refine lv_astoreN (lv' := [(4, .null), (3, .int x3), (1, .long 7), (0, .ref (h 0))]) hx hb dX11_checksum_21 hl (by decide) rfl (fun ls hl => ?_)
        refine lv_aloadN hx hb dX11_checksum_23 (lv_at hl 0 rfl) ?_
        refine lv_ifnullN (tgt := 65) hx hb dX11_checksum_25 (by decide) ?_
        obtain ⟨x_4, e_4⟩ : ∃ y : Int32, y = x3 + 1 := ⟨_, rfl⟩
        refine lv_iinc (v := x_4) (lv' := [(3, .int x_4), (4, .null), (1, .long 7), (0, .ref (h 0))]) hx hb dX11_checksum_65 hl (k := 1) rfl (by rw [e_4]; rfl) (by decide) rfl (fun ls hl => ?_)
        refine lv_goto (tgt := 6) hx hb dX11_checksum_68 (by decide) ?_
        have hinc_5 : x_4.toInt = x3.toInt + 1 := by rw [e_4]; exact zinc (by omega)
        exact ih_1 x_4 (by omega) (by omega) (by omega)   ls (lv_sub hl [0, 2, 3] rfl)
  refine hloop_1 101 0 (by decide) (by decide) (by decide)   ls (lv_sub hl [0, 1, 2] rfl)
set_option maxHeartbeats 4000000 in
set_option maxRecDepth 100000 in
theorem k_X11_provedShare (l : Launch) (sz : Nat) (D : va_G) (h cs : Nat → Nat) : Met l yX11_provedShare (.code yX11_provedShare cX11_provedShare 4 (some .float) :: zT) ({ frames := 0, cells := 0, slots := 0, locals := 0 }) (va_Pc [.ref (h 0)] (zM D [((h 0), .inr (11, [.ref (h 1), .ref (h 9), .int 0, .int 0, .ref (h 20), .ref (h 37), .int 0, .ref (h 38), .ref (h 42), .ref (h 43), .ref (h 44), .ref (h 45), .ref (h 46), .ref (h 47), .ref (h 48)])), ((h 1), .inr (8, [.ref (h 2), .int 0, .ref (h 3), .ref (h 4), .int 0, .ref (h 5), .int 0, .ref (h 6), .int 0, .ref (h 7), .int 0])), ((h 4), .inl ((cs 4), 100, .inr (.inr (.inr (.inr (fun _ => none))))))] [((cs 4), .object RX4)] sz)) (va_Qf (fun (r : UInt32) (_ : Unit) => r = FP.fconst0) (fun _ t => zE D [] [] (va_A [((h 0), .inr (11, [.ref (h 1), .ref (h 9), .int 0, .int 0, .ref (h 20), .ref (h 37), .int 0, .ref (h 38), .ref (h 42), .ref (h 43), .ref (h 44), .ref (h 45), .ref (h 46), .ref (h 47), .ref (h 48)])), ((h 1), .inr (8, [.ref (h 2), .int 0, .ref (h 3), .ref (h 4), .int 0, .ref (h 5), .int 0, .ref (h 6), .int 0, .ref (h 7), .int 0])), ((h 4), .inl ((cs 4), 100, .inr (.inr (.inr (.inr (fun _ => none))))))] sz) t) (va_A [((h 0), .inr (11, [.ref (h 1), .ref (h 9), .int 0, .int 0, .ref (h 20), .ref (h 37), .int 0, .ref (h 38), .ref (h 42), .ref (h 43), .ref (h 44), .ref (h 45), .ref (h 46), .ref (h 47), .ref (h 48)])), ((h 1), .inr (8, [.ref (h 2), .int 0, .ref (h 3), .ref (h 4), .int 0, .ref (h 5), .int 0, .ref (h 6), .int 0, .ref (h 7), .int 0])), ((h 4), .inl ((cs 4), 100, .inr (.inr (.inr (.inr (fun _ => none))))))] sz)) 0 0 (va_A [((h 0), .inr (11, [.ref (h 1), .ref (h 9), .int 0, .int 0, .ref (h 20), .ref (h 37), .int 0, .ref (h 38), .ref (h 42), .ref (h 43), .ref (h 44), .ref (h 45), .ref (h 46), .ref (h 47), .ref (h 48)])), ((h 1), .inr (8, [.ref (h 2), .int 0, .ref (h 3), .ref (h 4), .int 0, .ref (h 5), .int 0, .ref (h 6), .int 0, .ref (h 7), .int 0])), ((h 4), .inl ((cs 4), 100, .inr (.inr (.inr (.inr (fun _ => none))))))] sz) := by
  refine Met.ofW (cc := cX11_provedShare) (maxL := 4) (ret := (some .float)) (by decide) rfl ?_
  intro p e s m args below meth c s₁ B hml hv
  obtain ⟨rfl, hsz, hP, hK, hD0⟩ := hv
  have hx := B.exec
  have hb := B.bytes
  have hr := B.returns
  have hts := atoms_spec (ws := (.code yX11_provedShare cX11_provedShare 4 (some .float) :: zT)) B.pre
  have ht : ∀ w ∈ zT, w.before _ s = true := fun w h => hts w (List.mem_cons_of_mem _ h)
  have hown : s.vm.findClass RX11 = some m.cls := findClass_of_methodNamed B.named
  have hlocks := B.notSynchronized
  subst hsz
  have hD := hD0.self (sz := s.heap.size)
  generalize hAe : va_A [((h 0), .inr (11, [.ref (h 1), .ref (h 9), .int 0, .int 0, .ref (h 20), .ref (h 37), .int 0, .ref (h 38), .ref (h 42), .ref (h 43), .ref (h 44), .ref (h 45), .ref (h 46), .ref (h 47), .ref (h 48)])), ((h 1), .inr (8, [.ref (h 2), .int 0, .ref (h 3), .ref (h 4), .int 0, .ref (h 5), .int 0, .ref (h 6), .int 0, .ref (h 7), .int 0])), ((h 4), .inl ((cs 4), 100, .inr (.inr (.inr (.inr (fun _ => none))))))] s.heap.size = A at hD ⊢
  have hA : ∀ q : Nat, s.heap.size ≤ q → A q := fun q h => by rw [← hAe]; exact Or.inr h
  have hS : va_S A s.heap s.heap [] := va_S.rf
  have hP : va_P D vwCl [((h 0), .inr (11, [.ref (h 1), .ref (h 9), .int 0, .int 0, .ref (h 20), .ref (h 37), .int 0, .ref (h 38), .ref (h 42), .ref (h 43), .ref (h 44), .ref (h 45), .ref (h 46), .ref (h 47), .ref (h 48)])), ((h 1), .inr (8, [.ref (h 2), .int 0, .ref (h 3), .ref (h 4), .int 0, .ref (h 5), .int 0, .ref (h 6), .int 0, .ref (h 7), .int 0])), ((h 4), .inl ((cs 4), 100, .inr (.inr (.inr (.inr (fun _ => none))))))] s.heap := hP
  have hl := lv_entry ([.ref (h 0)]) (n := 4) (Nat.le_of_ble_eq_true rfl)
  rw [lg_entry_eq]
  generalize (lg_sl ([.ref (h 0)]) ++ List.replicate (4 - (lg_sl ([.ref (h 0)])).length) Slot.unset).toArray = ls at hl ⊢
  have hl : lv_has ls 4 [(0, .ref (h 0))] := hl
  skip
  refine lv_iconst (v := 0) hx hb dX11_provedShare_0 (by decide) ?_
  refine lv_istore_n (lv' := [(1, .int 0), (0, .ref (h 0))]) hx hb dX11_provedShare_1 rfl hl (by decide) rfl (fun ls hl => ?_)
  refine lv_iconst (v := 0) hx hb dX11_provedShare_2 (by decide) ?_
  refine lv_istore_n (lv' := [(2, .int 0), (1, .int 0), (0, .ref (h 0))]) hx hb dX11_provedShare_3 rfl hl (by decide) rfl (fun ls hl => ?_)
  refine lv_iload_n hx hb dX11_provedShare_4 rfl (lv_at hl 0 rfl) ?_
  refine lv_bipush (v := 100) hx hb dX11_provedShare_5 (by decide) ?_
  refine lv_icmp_ge (tgt := 45) hx hb dX11_provedShare_7 (by decide) (fun c_1 => ?_) (fun c_1 => ?_)
  · skip
    exact absurd c_1 (by decide)
  · skip
    refine lv_aload_n hx hb dX11_provedShare_10 rfl (lv_at hl 2 rfl) ?_
    refine va_get (D := D) (ci := 11) (v := .ref (h 1)) (C := RX11) (T := TX11) (N := 15) hx hb ht zinX11 hown hK hP 0 rfl rfl 0 (by decide) (ht _ zw_353) (fun _ h9 => h9) rfl dX11_provedShare_11 ?_
    refine va_get (D := D) (ci := 8) (v := .ref (h 4)) (C := RX8) (T := TX8) (N := 11) hx hb ht zinX8 hown hK hP 1 rfl rfl 3 (by decide) (ht _ zw_470) (fun _ h9 => h9) rfl dX11_provedShare_14 ?_
    refine lv_iload_n hx hb dX11_provedShare_17 rfl (lv_at hl 0 rfl) ?_
    refine va_aldq hx hb hK hP 2 0 rfl rfl (vp_in_iff.mpr (by decide)) dX11_provedShare_18 ?_
    refine W.eq (g2 := F0 m 19 ls (.null :: [])) rfl ?_
    refine lv_astore_nN (lv' := [(3, .null), (2, .int 0), (1, .int 0), (0, .ref (h 0))]) hx hb dX11_provedShare_19 rfl hl (by decide) rfl (fun ls hl => ?_)
    refine lv_iload_n hx hb dX11_provedShare_20 rfl (lv_at hl 2 rfl) ?_
    refine lv_aload_nN hx hb dX11_provedShare_21 rfl (lv_at hl 0 rfl) ?_
    refine lv_ifnullN (tgt := 36) hx hb dX11_provedShare_22 (by decide) ?_
    refine lv_iconst (v := 0) hx hb dX11_provedShare_36 (by decide) ?_
    refine lv_iadd hx hb dX11_provedShare_37 ?_
    refine lv_topi (fun x_3 e_3 => ?_)
    obtain rfl : x_3 = 0 := e_3.trans (by decide)
    refine lv_istore_n (lv' := [(1, .int 0), (3, .null), (2, .int 0), (0, .ref (h 0))]) hx hb dX11_provedShare_38 rfl hl (by decide) rfl (fun ls hl => ?_)
    refine lv_iinc (v := 1) (lv' := [(2, .int 1), (1, .int 0), (3, .null), (0, .ref (h 0))]) hx hb dX11_provedShare_39 hl (k := 2) rfl (by decide) (by decide) rfl (fun ls hl => ?_)
    refine lv_goto (tgt := 4) hx hb dX11_provedShare_42 (by decide) ?_
    refine lv_iload_n hx hb dX11_provedShare_4 rfl (lv_at hl 0 rfl) ?_
    refine lv_bipush (v := 100) hx hb dX11_provedShare_5 (by decide) ?_
    refine lv_icmp_ge (tgt := 45) hx hb dX11_provedShare_7 (by decide) (fun c_5 => ?_) (fun c_5 => ?_)
    · skip
      exact absurd c_5 (by decide)
    · skip
      refine lv_aload_n hx hb dX11_provedShare_10 rfl (lv_at hl 3 rfl) ?_
      refine va_get (D := D) (ci := 11) (v := .ref (h 1)) (C := RX11) (T := TX11) (N := 15) hx hb ht zinX11 hown hK hP 0 rfl rfl 0 (by decide) (ht _ zw_353) (fun _ h9 => h9) rfl dX11_provedShare_11 ?_
      refine va_get (D := D) (ci := 8) (v := .ref (h 4)) (C := RX8) (T := TX8) (N := 11) hx hb ht zinX8 hown hK hP 1 rfl rfl 3 (by decide) (ht _ zw_470) (fun _ h9 => h9) rfl dX11_provedShare_14 ?_
      refine lv_iload_n hx hb dX11_provedShare_17 rfl (lv_at hl 0 rfl) ?_
      refine va_aldq hx hb hK hP 2 0 rfl rfl (vp_in_iff.mpr (by decide)) dX11_provedShare_18 ?_
      refine W.eq (g2 := F0 m 19 ls (.null :: [])) rfl ?_
      refine lv_astore_nN (lv' := [(3, .null), (2, .int 1), (1, .int 0), (0, .ref (h 0))]) hx hb dX11_provedShare_19 rfl hl (by decide) rfl (fun ls hl => ?_)
      refine lv_iload_n hx hb dX11_provedShare_20 rfl (lv_at hl 2 rfl) ?_
      refine lv_aload_nN hx hb dX11_provedShare_21 rfl (lv_at hl 0 rfl) ?_
      refine lv_ifnullN (tgt := 36) hx hb dX11_provedShare_22 (by decide) ?_
      refine lv_iconst (v := 0) hx hb dX11_provedShare_36 (by decide) ?_
      refine lv_iadd hx hb dX11_provedShare_37 ?_
      refine lv_topi (fun x_7 e_7 => ?_)
      obtain rfl : x_7 = 0 := e_7.trans (by decide)
      refine lv_istore_n (lv' := [(1, .int 0), (3, .null), (2, .int 1), (0, .ref (h 0))]) hx hb dX11_provedShare_38 rfl hl (by decide) rfl (fun ls hl => ?_)
      refine lv_iinc (v := 2) (lv' := [(2, .int 2), (1, .int 0), (3, .null), (0, .ref (h 0))]) hx hb dX11_provedShare_39 hl (k := 2) rfl (by decide) (by decide) rfl (fun ls hl => ?_)
      refine lv_goto (tgt := 4) hx hb dX11_provedShare_42 (by decide) ?_
      refine lv_iload_n hx hb dX11_provedShare_4 rfl (lv_at hl 0 rfl) ?_
      refine lv_bipush (v := 100) hx hb dX11_provedShare_5 (by decide) ?_
      refine lv_icmp_ge (tgt := 45) hx hb dX11_provedShare_7 (by decide) (fun c_9 => ?_) (fun c_9 => ?_)
      · skip
        exact absurd c_9 (by decide)
      · skip
        refine lv_aload_n hx hb dX11_provedShare_10 rfl (lv_at hl 3 rfl) ?_
        refine va_get (D := D) (ci := 11) (v := .ref (h 1)) (C := RX11) (T := TX11) (N := 15) hx hb ht zinX11 hown hK hP 0 rfl rfl 0 (by decide) (ht _ zw_353) (fun _ h9 => h9) rfl dX11_provedShare_11 ?_
        refine va_get (D := D) (ci := 8) (v := .ref (h 4)) (C := RX8) (T := TX8) (N := 11) hx hb ht zinX8 hown hK hP 1 rfl rfl 3 (by decide) (ht _ zw_470) (fun _ h9 => h9) rfl dX11_provedShare_14 ?_
        refine lv_iload_n hx hb dX11_provedShare_17 rfl (lv_at hl 0 rfl) ?_
        refine va_aldq hx hb hK hP 2 0 rfl rfl (vp_in_iff.mpr (by decide)) dX11_provedShare_18 ?_
        refine W.eq (g2 := F0 m 19 ls (.null :: [])) rfl ?_
        refine lv_astore_nN (lv' := [(3, .null), (2, .int 2), (1, .int 0), (0, .ref (h 0))]) hx hb dX11_provedShare_19 rfl hl (by decide) rfl (fun ls hl => ?_)
        refine lv_iload_n hx hb dX11_provedShare_20 rfl (lv_at hl 2 rfl) ?_
        refine lv_aload_nN hx hb dX11_provedShare_21 rfl (lv_at hl 0 rfl) ?_
        refine lv_ifnullN (tgt := 36) hx hb dX11_provedShare_22 (by decide) ?_
        refine lv_iconst (v := 0) hx hb dX11_provedShare_36 (by decide) ?_
        refine lv_iadd hx hb dX11_provedShare_37 ?_
        refine lv_topi (fun x_11 e_11 => ?_)
        obtain rfl : x_11 = 0 := e_11.trans (by decide)
        refine lv_istore_n (lv' := [(1, .int 0), (3, .null), (2, .int 2), (0, .ref (h 0))]) hx hb dX11_provedShare_38 rfl hl (by decide) rfl (fun ls hl => ?_)
        refine lv_iinc (v := 3) (lv' := [(2, .int 3), (1, .int 0), (3, .null), (0, .ref (h 0))]) hx hb dX11_provedShare_39 hl (k := 2) rfl (by decide) (by decide) rfl (fun ls hl => ?_)
        refine lv_goto (tgt := 4) hx hb dX11_provedShare_42 (by decide) ?_
        refine lv_iload_n hx hb dX11_provedShare_4 rfl (lv_at hl 0 rfl) ?_
        refine lv_bipush (v := 100) hx hb dX11_provedShare_5 (by decide) ?_
        refine lv_icmp_ge (tgt := 45) hx hb dX11_provedShare_7 (by decide) (fun c_13 => ?_) (fun c_13 => ?_)
        · skip
          exact absurd c_13 (by decide)
        · skip
          refine lv_aload_n hx hb dX11_provedShare_10 rfl (lv_at hl 3 rfl) ?_
          refine va_get (D := D) (ci := 11) (v := .ref (h 1)) (C := RX11) (T := TX11) (N := 15) hx hb ht zinX11 hown hK hP 0 rfl rfl 0 (by decide) (ht _ zw_353) (fun _ h9 => h9) rfl dX11_provedShare_11 ?_
          refine va_get (D := D) (ci := 8) (v := .ref (h 4)) (C := RX8) (T := TX8) (N := 11) hx hb ht zinX8 hown hK hP 1 rfl rfl 3 (by decide) (ht _ zw_470) (fun _ h9 => h9) rfl dX11_provedShare_14 ?_
          refine lv_iload_n hx hb dX11_provedShare_17 rfl (lv_at hl 0 rfl) ?_
          refine va_aldq hx hb hK hP 2 0 rfl rfl (vp_in_iff.mpr (by decide)) dX11_provedShare_18 ?_
          refine W.eq (g2 := F0 m 19 ls (.null :: [])) rfl ?_
          refine lv_astore_nN (lv' := [(3, .null), (2, .int 3), (1, .int 0), (0, .ref (h 0))]) hx hb dX11_provedShare_19 rfl hl (by decide) rfl (fun ls hl => ?_)
          refine lv_iload_n hx hb dX11_provedShare_20 rfl (lv_at hl 2 rfl) ?_
          refine lv_aload_nN hx hb dX11_provedShare_21 rfl (lv_at hl 0 rfl) ?_
          refine lv_ifnullN (tgt := 36) hx hb dX11_provedShare_22 (by decide) ?_
          refine lv_iconst (v := 0) hx hb dX11_provedShare_36 (by decide) ?_
          refine lv_iadd hx hb dX11_provedShare_37 ?_
          refine lv_topi (fun x_15 e_15 => ?_)
          obtain rfl : x_15 = 0 := e_15.trans (by decide)
          refine lv_istore_n (lv' := [(1, .int 0), (3, .null), (2, .int 3), (0, .ref (h 0))]) hx hb dX11_provedShare_38 rfl hl (by decide) rfl (fun ls hl => ?_)
          refine lv_iinc (v := 4) (lv' := [(2, .int 4), (1, .int 0), (3, .null), (0, .ref (h 0))]) hx hb dX11_provedShare_39 hl (k := 2) rfl (by decide) (by decide) rfl (fun ls hl => ?_)
          refine lv_goto (tgt := 4) hx hb dX11_provedShare_42 (by decide) ?_
          refine lv_iload_n hx hb dX11_provedShare_4 rfl (lv_at hl 0 rfl) ?_
          refine lv_bipush (v := 100) hx hb dX11_provedShare_5 (by decide) ?_
          refine lv_icmp_ge (tgt := 45) hx hb dX11_provedShare_7 (by decide) (fun c_17 => ?_) (fun c_17 => ?_)
          · skip
            exact absurd c_17 (by decide)
          · skip
            refine lv_aload_n hx hb dX11_provedShare_10 rfl (lv_at hl 3 rfl) ?_
            refine va_get (D := D) (ci := 11) (v := .ref (h 1)) (C := RX11) (T := TX11) (N := 15) hx hb ht zinX11 hown hK hP 0 rfl rfl 0 (by decide) (ht _ zw_353) (fun _ h9 => h9) rfl dX11_provedShare_11 ?_
            refine va_get (D := D) (ci := 8) (v := .ref (h 4)) (C := RX8) (T := TX8) (N := 11) hx hb ht zinX8 hown hK hP 1 rfl rfl 3 (by decide) (ht _ zw_470) (fun _ h9 => h9) rfl dX11_provedShare_14 ?_
            refine lv_iload_n hx hb dX11_provedShare_17 rfl (lv_at hl 0 rfl) ?_
            refine va_aldq hx hb hK hP 2 0 rfl rfl (vp_in_iff.mpr (by decide)) dX11_provedShare_18 ?_
            refine W.eq (g2 := F0 m 19 ls (.null :: [])) rfl ?_
            refine lv_astore_nN (lv' := [(3, .null), (2, .int 4), (1, .int 0), (0, .ref (h 0))]) hx hb dX11_provedShare_19 rfl hl (by decide) rfl (fun ls hl => ?_)
            refine lv_iload_n hx hb dX11_provedShare_20 rfl (lv_at hl 2 rfl) ?_
            refine lv_aload_nN hx hb dX11_provedShare_21 rfl (lv_at hl 0 rfl) ?_
            refine lv_ifnullN (tgt := 36) hx hb dX11_provedShare_22 (by decide) ?_
            refine lv_iconst (v := 0) hx hb dX11_provedShare_36 (by decide) ?_
            refine lv_iadd hx hb dX11_provedShare_37 ?_
            refine lv_topi (fun x_19 e_19 => ?_)
            obtain rfl : x_19 = 0 := e_19.trans (by decide)
            refine lv_istore_n (lv' := [(1, .int 0), (3, .null), (2, .int 4), (0, .ref (h 0))]) hx hb dX11_provedShare_38 rfl hl (by decide) rfl (fun ls hl => ?_)
            refine lv_iinc (v := 5) (lv' := [(2, .int 5), (1, .int 0), (3, .null), (0, .ref (h 0))]) hx hb dX11_provedShare_39 hl (k := 2) rfl (by decide) (by decide) rfl (fun ls hl => ?_)
            refine lv_goto (tgt := 4) hx hb dX11_provedShare_42 (by decide) ?_
            refine lv_iload_n hx hb dX11_provedShare_4 rfl (lv_at hl 0 rfl) ?_
            refine lv_bipush (v := 100) hx hb dX11_provedShare_5 (by decide) ?_
            refine lv_icmp_ge (tgt := 45) hx hb dX11_provedShare_7 (by decide) (fun c_21 => ?_) (fun c_21 => ?_)
            · skip
              exact absurd c_21 (by decide)
            · skip
              refine lv_aload_n hx hb dX11_provedShare_10 rfl (lv_at hl 3 rfl) ?_
              refine va_get (D := D) (ci := 11) (v := .ref (h 1)) (C := RX11) (T := TX11) (N := 15) hx hb ht zinX11 hown hK hP 0 rfl rfl 0 (by decide) (ht _ zw_353) (fun _ h9 => h9) rfl dX11_provedShare_11 ?_
              refine va_get (D := D) (ci := 8) (v := .ref (h 4)) (C := RX8) (T := TX8) (N := 11) hx hb ht zinX8 hown hK hP 1 rfl rfl 3 (by decide) (ht _ zw_470) (fun _ h9 => h9) rfl dX11_provedShare_14 ?_
              refine lv_iload_n hx hb dX11_provedShare_17 rfl (lv_at hl 0 rfl) ?_
              refine va_aldq hx hb hK hP 2 0 rfl rfl (vp_in_iff.mpr (by decide)) dX11_provedShare_18 ?_
              refine W.eq (g2 := F0 m 19 ls (.null :: [])) rfl ?_
              refine lv_astore_nN (lv' := [(3, .null), (2, .int 5), (1, .int 0), (0, .ref (h 0))]) hx hb dX11_provedShare_19 rfl hl (by decide) rfl (fun ls hl => ?_)
              refine lv_iload_n hx hb dX11_provedShare_20 rfl (lv_at hl 2 rfl) ?_
              refine lv_aload_nN hx hb dX11_provedShare_21 rfl (lv_at hl 0 rfl) ?_
              refine lv_ifnullN (tgt := 36) hx hb dX11_provedShare_22 (by decide) ?_
              refine lv_iconst (v := 0) hx hb dX11_provedShare_36 (by decide) ?_
              refine lv_iadd hx hb dX11_provedShare_37 ?_
              refine lv_topi (fun x_23 e_23 => ?_)
              obtain rfl : x_23 = 0 := e_23.trans (by decide)
              refine lv_istore_n (lv' := [(1, .int 0), (3, .null), (2, .int 5), (0, .ref (h 0))]) hx hb dX11_provedShare_38 rfl hl (by decide) rfl (fun ls hl => ?_)
              refine lv_iinc (v := 6) (lv' := [(2, .int 6), (1, .int 0), (3, .null), (0, .ref (h 0))]) hx hb dX11_provedShare_39 hl (k := 2) rfl (by decide) (by decide) rfl (fun ls hl => ?_)
              refine lv_goto (tgt := 4) hx hb dX11_provedShare_42 (by decide) ?_
              refine lv_iload_n hx hb dX11_provedShare_4 rfl (lv_at hl 0 rfl) ?_
              refine lv_bipush (v := 100) hx hb dX11_provedShare_5 (by decide) ?_
              refine lv_icmp_ge (tgt := 45) hx hb dX11_provedShare_7 (by decide) (fun c_25 => ?_) (fun c_25 => ?_)
              · skip
                exact absurd c_25 (by decide)
              · skip
                refine lv_aload_n hx hb dX11_provedShare_10 rfl (lv_at hl 3 rfl) ?_
                refine va_get (D := D) (ci := 11) (v := .ref (h 1)) (C := RX11) (T := TX11) (N := 15) hx hb ht zinX11 hown hK hP 0 rfl rfl 0 (by decide) (ht _ zw_353) (fun _ h9 => h9) rfl dX11_provedShare_11 ?_
                refine va_get (D := D) (ci := 8) (v := .ref (h 4)) (C := RX8) (T := TX8) (N := 11) hx hb ht zinX8 hown hK hP 1 rfl rfl 3 (by decide) (ht _ zw_470) (fun _ h9 => h9) rfl dX11_provedShare_14 ?_
                refine lv_iload_n hx hb dX11_provedShare_17 rfl (lv_at hl 0 rfl) ?_
                refine va_aldq hx hb hK hP 2 0 rfl rfl (vp_in_iff.mpr (by decide)) dX11_provedShare_18 ?_
                refine W.eq (g2 := F0 m 19 ls (.null :: [])) rfl ?_
                refine lv_astore_nN (lv' := [(3, .null), (2, .int 6), (1, .int 0), (0, .ref (h 0))]) hx hb dX11_provedShare_19 rfl hl (by decide) rfl (fun ls hl => ?_)
                refine lv_iload_n hx hb dX11_provedShare_20 rfl (lv_at hl 2 rfl) ?_
                refine lv_aload_nN hx hb dX11_provedShare_21 rfl (lv_at hl 0 rfl) ?_
                refine lv_ifnullN (tgt := 36) hx hb dX11_provedShare_22 (by decide) ?_
                refine lv_iconst (v := 0) hx hb dX11_provedShare_36 (by decide) ?_
                refine lv_iadd hx hb dX11_provedShare_37 ?_
                refine lv_topi (fun x_27 e_27 => ?_)
                obtain rfl : x_27 = 0 := e_27.trans (by decide)
                refine lv_istore_n (lv' := [(1, .int 0), (3, .null), (2, .int 6), (0, .ref (h 0))]) hx hb dX11_provedShare_38 rfl hl (by decide) rfl (fun ls hl => ?_)
                refine lv_iinc (v := 7) (lv' := [(2, .int 7), (1, .int 0), (3, .null), (0, .ref (h 0))]) hx hb dX11_provedShare_39 hl (k := 2) rfl (by decide) (by decide) rfl (fun ls hl => ?_)
                refine lv_goto (tgt := 4) hx hb dX11_provedShare_42 (by decide) ?_
                refine lv_iload_n hx hb dX11_provedShare_4 rfl (lv_at hl 0 rfl) ?_
                refine lv_bipush (v := 100) hx hb dX11_provedShare_5 (by decide) ?_
                refine lv_icmp_ge (tgt := 45) hx hb dX11_provedShare_7 (by decide) (fun c_29 => ?_) (fun c_29 => ?_)
                · skip
                  exact absurd c_29 (by decide)
                · skip
                  refine lv_aload_n hx hb dX11_provedShare_10 rfl (lv_at hl 3 rfl) ?_
                  refine va_get (D := D) (ci := 11) (v := .ref (h 1)) (C := RX11) (T := TX11) (N := 15) hx hb ht zinX11 hown hK hP 0 rfl rfl 0 (by decide) (ht _ zw_353) (fun _ h9 => h9) rfl dX11_provedShare_11 ?_
                  refine va_get (D := D) (ci := 8) (v := .ref (h 4)) (C := RX8) (T := TX8) (N := 11) hx hb ht zinX8 hown hK hP 1 rfl rfl 3 (by decide) (ht _ zw_470) (fun _ h9 => h9) rfl dX11_provedShare_14 ?_
                  refine lv_iload_n hx hb dX11_provedShare_17 rfl (lv_at hl 0 rfl) ?_
                  refine va_aldq hx hb hK hP 2 0 rfl rfl (vp_in_iff.mpr (by decide)) dX11_provedShare_18 ?_
                  refine W.eq (g2 := F0 m 19 ls (.null :: [])) rfl ?_
                  refine lv_astore_nN (lv' := [(3, .null), (2, .int 7), (1, .int 0), (0, .ref (h 0))]) hx hb dX11_provedShare_19 rfl hl (by decide) rfl (fun ls hl => ?_)
                  refine lv_iload_n hx hb dX11_provedShare_20 rfl (lv_at hl 2 rfl) ?_
                  refine lv_aload_nN hx hb dX11_provedShare_21 rfl (lv_at hl 0 rfl) ?_
                  refine lv_ifnullN (tgt := 36) hx hb dX11_provedShare_22 (by decide) ?_
                  refine lv_iconst (v := 0) hx hb dX11_provedShare_36 (by decide) ?_
                  refine lv_iadd hx hb dX11_provedShare_37 ?_
                  refine lv_topi (fun x_31 e_31 => ?_)
                  obtain rfl : x_31 = 0 := e_31.trans (by decide)
                  refine lv_istore_n (lv' := [(1, .int 0), (3, .null), (2, .int 7), (0, .ref (h 0))]) hx hb dX11_provedShare_38 rfl hl (by decide) rfl (fun ls hl => ?_)
                  refine lv_iinc (v := 8) (lv' := [(2, .int 8), (1, .int 0), (3, .null), (0, .ref (h 0))]) hx hb dX11_provedShare_39 hl (k := 2) rfl (by decide) (by decide) rfl (fun ls hl => ?_)
                  refine lv_goto (tgt := 4) hx hb dX11_provedShare_42 (by decide) ?_
                  refine lv_iload_n hx hb dX11_provedShare_4 rfl (lv_at hl 0 rfl) ?_
                  refine lv_bipush (v := 100) hx hb dX11_provedShare_5 (by decide) ?_
                  refine lv_icmp_ge (tgt := 45) hx hb dX11_provedShare_7 (by decide) (fun c_33 => ?_) (fun c_33 => ?_)
                  · skip
                    exact absurd c_33 (by decide)
                  · skip
                    refine lv_aload_n hx hb dX11_provedShare_10 rfl (lv_at hl 3 rfl) ?_
                    refine va_get (D := D) (ci := 11) (v := .ref (h 1)) (C := RX11) (T := TX11) (N := 15) hx hb ht zinX11 hown hK hP 0 rfl rfl 0 (by decide) (ht _ zw_353) (fun _ h9 => h9) rfl dX11_provedShare_11 ?_
                    refine va_get (D := D) (ci := 8) (v := .ref (h 4)) (C := RX8) (T := TX8) (N := 11) hx hb ht zinX8 hown hK hP 1 rfl rfl 3 (by decide) (ht _ zw_470) (fun _ h9 => h9) rfl dX11_provedShare_14 ?_
                    refine lv_iload_n hx hb dX11_provedShare_17 rfl (lv_at hl 0 rfl) ?_
                    refine va_aldq hx hb hK hP 2 0 rfl rfl (vp_in_iff.mpr (by decide)) dX11_provedShare_18 ?_
                    refine W.eq (g2 := F0 m 19 ls (.null :: [])) rfl ?_
                    refine lv_astore_nN (lv' := [(3, .null), (2, .int 8), (1, .int 0), (0, .ref (h 0))]) hx hb dX11_provedShare_19 rfl hl (by decide) rfl (fun ls hl => ?_)
                    refine lv_iload_n hx hb dX11_provedShare_20 rfl (lv_at hl 2 rfl) ?_
                    refine lv_aload_nN hx hb dX11_provedShare_21 rfl (lv_at hl 0 rfl) ?_
                    refine lv_ifnullN (tgt := 36) hx hb dX11_provedShare_22 (by decide) ?_
                    refine lv_iconst (v := 0) hx hb dX11_provedShare_36 (by decide) ?_
                    refine lv_iadd hx hb dX11_provedShare_37 ?_
                    refine lv_topi (fun x_35 e_35 => ?_)
                    obtain rfl : x_35 = 0 := e_35.trans (by decide)
                    refine lv_istore_n (lv' := [(1, .int 0), (3, .null), (2, .int 8), (0, .ref (h 0))]) hx hb dX11_provedShare_38 rfl hl (by decide) rfl (fun ls hl => ?_)
                    refine lv_iinc (v := 9) (lv' := [(2, .int 9), (1, .int 0), (3, .null), (0, .ref (h 0))]) hx hb dX11_provedShare_39 hl (k := 2) rfl (by decide) (by decide) rfl (fun ls hl => ?_)
                    refine lv_goto (tgt := 4) hx hb dX11_provedShare_42 (by decide) ?_
                    refine lv_iload_n hx hb dX11_provedShare_4 rfl (lv_at hl 0 rfl) ?_
                    refine lv_bipush (v := 100) hx hb dX11_provedShare_5 (by decide) ?_
                    refine lv_icmp_ge (tgt := 45) hx hb dX11_provedShare_7 (by decide) (fun c_37 => ?_) (fun c_37 => ?_)
                    · skip
                      exact absurd c_37 (by decide)
                    · skip
                      refine lv_aload_n hx hb dX11_provedShare_10 rfl (lv_at hl 3 rfl) ?_
                      refine va_get (D := D) (ci := 11) (v := .ref (h 1)) (C := RX11) (T := TX11) (N := 15) hx hb ht zinX11 hown hK hP 0 rfl rfl 0 (by decide) (ht _ zw_353) (fun _ h9 => h9) rfl dX11_provedShare_11 ?_
                      refine va_get (D := D) (ci := 8) (v := .ref (h 4)) (C := RX8) (T := TX8) (N := 11) hx hb ht zinX8 hown hK hP 1 rfl rfl 3 (by decide) (ht _ zw_470) (fun _ h9 => h9) rfl dX11_provedShare_14 ?_
                      refine lv_iload_n hx hb dX11_provedShare_17 rfl (lv_at hl 0 rfl) ?_
                      refine va_aldq hx hb hK hP 2 0 rfl rfl (vp_in_iff.mpr (by decide)) dX11_provedShare_18 ?_
                      refine W.eq (g2 := F0 m 19 ls (.null :: [])) rfl ?_
                      refine lv_astore_nN (lv' := [(3, .null), (2, .int 9), (1, .int 0), (0, .ref (h 0))]) hx hb dX11_provedShare_19 rfl hl (by decide) rfl (fun ls hl => ?_)
                      refine lv_iload_n hx hb dX11_provedShare_20 rfl (lv_at hl 2 rfl) ?_
                      refine lv_aload_nN hx hb dX11_provedShare_21 rfl (lv_at hl 0 rfl) ?_
                      refine lv_ifnullN (tgt := 36) hx hb dX11_provedShare_22 (by decide) ?_
                      refine lv_iconst (v := 0) hx hb dX11_provedShare_36 (by decide) ?_
                      refine lv_iadd hx hb dX11_provedShare_37 ?_
                      refine lv_topi (fun x_39 e_39 => ?_)
                      obtain rfl : x_39 = 0 := e_39.trans (by decide)
                      refine lv_istore_n (lv' := [(1, .int 0), (3, .null), (2, .int 9), (0, .ref (h 0))]) hx hb dX11_provedShare_38 rfl hl (by decide) rfl (fun ls hl => ?_)
                      refine lv_iinc (v := 10) (lv' := [(2, .int 10), (1, .int 0), (3, .null), (0, .ref (h 0))]) hx hb dX11_provedShare_39 hl (k := 2) rfl (by decide) (by decide) rfl (fun ls hl => ?_)
                      refine lv_goto (tgt := 4) hx hb dX11_provedShare_42 (by decide) ?_
                      refine lv_iload_n hx hb dX11_provedShare_4 rfl (lv_at hl 0 rfl) ?_
                      refine lv_bipush (v := 100) hx hb dX11_provedShare_5 (by decide) ?_
                      refine lv_icmp_ge (tgt := 45) hx hb dX11_provedShare_7 (by decide) (fun c_41 => ?_) (fun c_41 => ?_)
                      · skip
                        exact absurd c_41 (by decide)
                      · skip
                        refine lv_aload_n hx hb dX11_provedShare_10 rfl (lv_at hl 3 rfl) ?_
                        refine va_get (D := D) (ci := 11) (v := .ref (h 1)) (C := RX11) (T := TX11) (N := 15) hx hb ht zinX11 hown hK hP 0 rfl rfl 0 (by decide) (ht _ zw_353) (fun _ h9 => h9) rfl dX11_provedShare_11 ?_
                        refine va_get (D := D) (ci := 8) (v := .ref (h 4)) (C := RX8) (T := TX8) (N := 11) hx hb ht zinX8 hown hK hP 1 rfl rfl 3 (by decide) (ht _ zw_470) (fun _ h9 => h9) rfl dX11_provedShare_14 ?_
                        refine lv_iload_n hx hb dX11_provedShare_17 rfl (lv_at hl 0 rfl) ?_
                        refine va_aldq hx hb hK hP 2 0 rfl rfl (vp_in_iff.mpr (by decide)) dX11_provedShare_18 ?_
                        refine W.eq (g2 := F0 m 19 ls (.null :: [])) rfl ?_
                        refine lv_astore_nN (lv' := [(3, .null), (2, .int 10), (1, .int 0), (0, .ref (h 0))]) hx hb dX11_provedShare_19 rfl hl (by decide) rfl (fun ls hl => ?_)
                        refine lv_iload_n hx hb dX11_provedShare_20 rfl (lv_at hl 2 rfl) ?_
                        refine lv_aload_nN hx hb dX11_provedShare_21 rfl (lv_at hl 0 rfl) ?_
                        refine lv_ifnullN (tgt := 36) hx hb dX11_provedShare_22 (by decide) ?_
                        refine lv_iconst (v := 0) hx hb dX11_provedShare_36 (by decide) ?_
                        refine lv_iadd hx hb dX11_provedShare_37 ?_
                        refine lv_topi (fun x_43 e_43 => ?_)
                        obtain rfl : x_43 = 0 := e_43.trans (by decide)
                        refine lv_istore_n (lv' := [(1, .int 0), (3, .null), (2, .int 10), (0, .ref (h 0))]) hx hb dX11_provedShare_38 rfl hl (by decide) rfl (fun ls hl => ?_)
                        refine lv_iinc (v := 11) (lv' := [(2, .int 11), (1, .int 0), (3, .null), (0, .ref (h 0))]) hx hb dX11_provedShare_39 hl (k := 2) rfl (by decide) (by decide) rfl (fun ls hl => ?_)
                        refine lv_goto (tgt := 4) hx hb dX11_provedShare_42 (by decide) ?_
                        refine lv_iload_n hx hb dX11_provedShare_4 rfl (lv_at hl 0 rfl) ?_
                        refine lv_bipush (v := 100) hx hb dX11_provedShare_5 (by decide) ?_
                        refine lv_icmp_ge (tgt := 45) hx hb dX11_provedShare_7 (by decide) (fun c_45 => ?_) (fun c_45 => ?_)
                        · skip
                          exact absurd c_45 (by decide)
                        · skip
                          refine lv_aload_n hx hb dX11_provedShare_10 rfl (lv_at hl 3 rfl) ?_
                          refine va_get (D := D) (ci := 11) (v := .ref (h 1)) (C := RX11) (T := TX11) (N := 15) hx hb ht zinX11 hown hK hP 0 rfl rfl 0 (by decide) (ht _ zw_353) (fun _ h9 => h9) rfl dX11_provedShare_11 ?_
                          refine va_get (D := D) (ci := 8) (v := .ref (h 4)) (C := RX8) (T := TX8) (N := 11) hx hb ht zinX8 hown hK hP 1 rfl rfl 3 (by decide) (ht _ zw_470) (fun _ h9 => h9) rfl dX11_provedShare_14 ?_
                          refine lv_iload_n hx hb dX11_provedShare_17 rfl (lv_at hl 0 rfl) ?_
                          refine va_aldq hx hb hK hP 2 0 rfl rfl (vp_in_iff.mpr (by decide)) dX11_provedShare_18 ?_
                          refine W.eq (g2 := F0 m 19 ls (.null :: [])) rfl ?_
                          refine lv_astore_nN (lv' := [(3, .null), (2, .int 11), (1, .int 0), (0, .ref (h 0))]) hx hb dX11_provedShare_19 rfl hl (by decide) rfl (fun ls hl => ?_)
                          refine lv_iload_n hx hb dX11_provedShare_20 rfl (lv_at hl 2 rfl) ?_
                          refine lv_aload_nN hx hb dX11_provedShare_21 rfl (lv_at hl 0 rfl) ?_
                          refine lv_ifnullN (tgt := 36) hx hb dX11_provedShare_22 (by decide) ?_
                          refine lv_iconst (v := 0) hx hb dX11_provedShare_36 (by decide) ?_
                          refine lv_iadd hx hb dX11_provedShare_37 ?_
                          refine lv_topi (fun x_47 e_47 => ?_)
                          obtain rfl : x_47 = 0 := e_47.trans (by decide)
                          refine lv_istore_n (lv' := [(1, .int 0), (3, .null), (2, .int 11), (0, .ref (h 0))]) hx hb dX11_provedShare_38 rfl hl (by decide) rfl (fun ls hl => ?_)
                          refine lv_iinc (v := 12) (lv' := [(2, .int 12), (1, .int 0), (3, .null), (0, .ref (h 0))]) hx hb dX11_provedShare_39 hl (k := 2) rfl (by decide) (by decide) rfl (fun ls hl => ?_)
                          refine lv_goto (tgt := 4) hx hb dX11_provedShare_42 (by decide) ?_
                          refine lv_iload_n hx hb dX11_provedShare_4 rfl (lv_at hl 0 rfl) ?_
                          refine lv_bipush (v := 100) hx hb dX11_provedShare_5 (by decide) ?_
                          refine lv_icmp_ge (tgt := 45) hx hb dX11_provedShare_7 (by decide) (fun c_49 => ?_) (fun c_49 => ?_)
                          · skip
                            exact absurd c_49 (by decide)
                          · skip
                            refine lv_aload_n hx hb dX11_provedShare_10 rfl (lv_at hl 3 rfl) ?_
                            refine va_get (D := D) (ci := 11) (v := .ref (h 1)) (C := RX11) (T := TX11) (N := 15) hx hb ht zinX11 hown hK hP 0 rfl rfl 0 (by decide) (ht _ zw_353) (fun _ h9 => h9) rfl dX11_provedShare_11 ?_
                            refine va_get (D := D) (ci := 8) (v := .ref (h 4)) (C := RX8) (T := TX8) (N := 11) hx hb ht zinX8 hown hK hP 1 rfl rfl 3 (by decide) (ht _ zw_470) (fun _ h9 => h9) rfl dX11_provedShare_14 ?_
                            refine lv_iload_n hx hb dX11_provedShare_17 rfl (lv_at hl 0 rfl) ?_
                            refine va_aldq hx hb hK hP 2 0 rfl rfl (vp_in_iff.mpr (by decide)) dX11_provedShare_18 ?_
                            refine W.eq (g2 := F0 m 19 ls (.null :: [])) rfl ?_
                            refine lv_astore_nN (lv' := [(3, .null), (2, .int 12), (1, .int 0), (0, .ref (h 0))]) hx hb dX11_provedShare_19 rfl hl (by decide) rfl (fun ls hl => ?_)
                            refine lv_iload_n hx hb dX11_provedShare_20 rfl (lv_at hl 2 rfl) ?_
                            refine lv_aload_nN hx hb dX11_provedShare_21 rfl (lv_at hl 0 rfl) ?_
                            refine lv_ifnullN (tgt := 36) hx hb dX11_provedShare_22 (by decide) ?_
                            refine lv_iconst (v := 0) hx hb dX11_provedShare_36 (by decide) ?_
                            refine lv_iadd hx hb dX11_provedShare_37 ?_
                            refine lv_topi (fun x_51 e_51 => ?_)
                            obtain rfl : x_51 = 0 := e_51.trans (by decide)
                            refine lv_istore_n (lv' := [(1, .int 0), (3, .null), (2, .int 12), (0, .ref (h 0))]) hx hb dX11_provedShare_38 rfl hl (by decide) rfl (fun ls hl => ?_)
                            refine lv_iinc (v := 13) (lv' := [(2, .int 13), (1, .int 0), (3, .null), (0, .ref (h 0))]) hx hb dX11_provedShare_39 hl (k := 2) rfl (by decide) (by decide) rfl (fun ls hl => ?_)
                            refine lv_goto (tgt := 4) hx hb dX11_provedShare_42 (by decide) ?_
                            refine lv_iload_n hx hb dX11_provedShare_4 rfl (lv_at hl 0 rfl) ?_
                            refine lv_bipush (v := 100) hx hb dX11_provedShare_5 (by decide) ?_
                            refine lv_icmp_ge (tgt := 45) hx hb dX11_provedShare_7 (by decide) (fun c_53 => ?_) (fun c_53 => ?_)
                            · skip
                              exact absurd c_53 (by decide)
                            · skip
                              refine lv_aload_n hx hb dX11_provedShare_10 rfl (lv_at hl 3 rfl) ?_
                              refine va_get (D := D) (ci := 11) (v := .ref (h 1)) (C := RX11) (T := TX11) (N := 15) hx hb ht zinX11 hown hK hP 0 rfl rfl 0 (by decide) (ht _ zw_353) (fun _ h9 => h9) rfl dX11_provedShare_11 ?_
                              refine va_get (D := D) (ci := 8) (v := .ref (h 4)) (C := RX8) (T := TX8) (N := 11) hx hb ht zinX8 hown hK hP 1 rfl rfl 3 (by decide) (ht _ zw_470) (fun _ h9 => h9) rfl dX11_provedShare_14 ?_
                              refine lv_iload_n hx hb dX11_provedShare_17 rfl (lv_at hl 0 rfl) ?_
                              refine va_aldq hx hb hK hP 2 0 rfl rfl (vp_in_iff.mpr (by decide)) dX11_provedShare_18 ?_
                              refine W.eq (g2 := F0 m 19 ls (.null :: [])) rfl ?_
                              refine lv_astore_nN (lv' := [(3, .null), (2, .int 13), (1, .int 0), (0, .ref (h 0))]) hx hb dX11_provedShare_19 rfl hl (by decide) rfl (fun ls hl => ?_)
                              refine lv_iload_n hx hb dX11_provedShare_20 rfl (lv_at hl 2 rfl) ?_
                              refine lv_aload_nN hx hb dX11_provedShare_21 rfl (lv_at hl 0 rfl) ?_
                              refine lv_ifnullN (tgt := 36) hx hb dX11_provedShare_22 (by decide) ?_
                              refine lv_iconst (v := 0) hx hb dX11_provedShare_36 (by decide) ?_
                              refine lv_iadd hx hb dX11_provedShare_37 ?_
                              refine lv_topi (fun x_55 e_55 => ?_)
                              obtain rfl : x_55 = 0 := e_55.trans (by decide)
                              refine lv_istore_n (lv' := [(1, .int 0), (3, .null), (2, .int 13), (0, .ref (h 0))]) hx hb dX11_provedShare_38 rfl hl (by decide) rfl (fun ls hl => ?_)
                              refine lv_iinc (v := 14) (lv' := [(2, .int 14), (1, .int 0), (3, .null), (0, .ref (h 0))]) hx hb dX11_provedShare_39 hl (k := 2) rfl (by decide) (by decide) rfl (fun ls hl => ?_)
                              refine lv_goto (tgt := 4) hx hb dX11_provedShare_42 (by decide) ?_
                              refine lv_iload_n hx hb dX11_provedShare_4 rfl (lv_at hl 0 rfl) ?_
                              refine lv_bipush (v := 100) hx hb dX11_provedShare_5 (by decide) ?_
                              refine lv_icmp_ge (tgt := 45) hx hb dX11_provedShare_7 (by decide) (fun c_57 => ?_) (fun c_57 => ?_)
                              · skip
                                exact absurd c_57 (by decide)
                              · skip
                                refine lv_aload_n hx hb dX11_provedShare_10 rfl (lv_at hl 3 rfl) ?_
                                refine va_get (D := D) (ci := 11) (v := .ref (h 1)) (C := RX11) (T := TX11) (N := 15) hx hb ht zinX11 hown hK hP 0 rfl rfl 0 (by decide) (ht _ zw_353) (fun _ h9 => h9) rfl dX11_provedShare_11 ?_
                                refine va_get (D := D) (ci := 8) (v := .ref (h 4)) (C := RX8) (T := TX8) (N := 11) hx hb ht zinX8 hown hK hP 1 rfl rfl 3 (by decide) (ht _ zw_470) (fun _ h9 => h9) rfl dX11_provedShare_14 ?_
                                refine lv_iload_n hx hb dX11_provedShare_17 rfl (lv_at hl 0 rfl) ?_
                                refine va_aldq hx hb hK hP 2 0 rfl rfl (vp_in_iff.mpr (by decide)) dX11_provedShare_18 ?_
                                refine W.eq (g2 := F0 m 19 ls (.null :: [])) rfl ?_
                                refine lv_astore_nN (lv' := [(3, .null), (2, .int 14), (1, .int 0), (0, .ref (h 0))]) hx hb dX11_provedShare_19 rfl hl (by decide) rfl (fun ls hl => ?_)
                                refine lv_iload_n hx hb dX11_provedShare_20 rfl (lv_at hl 2 rfl) ?_
                                refine lv_aload_nN hx hb dX11_provedShare_21 rfl (lv_at hl 0 rfl) ?_
                                refine lv_ifnullN (tgt := 36) hx hb dX11_provedShare_22 (by decide) ?_
                                refine lv_iconst (v := 0) hx hb dX11_provedShare_36 (by decide) ?_
                                refine lv_iadd hx hb dX11_provedShare_37 ?_
                                refine lv_topi (fun x_59 e_59 => ?_)
                                obtain rfl : x_59 = 0 := e_59.trans (by decide)
                                refine lv_istore_n (lv' := [(1, .int 0), (3, .null), (2, .int 14), (0, .ref (h 0))]) hx hb dX11_provedShare_38 rfl hl (by decide) rfl (fun ls hl => ?_)
                                refine lv_iinc (v := 15) (lv' := [(2, .int 15), (1, .int 0), (3, .null), (0, .ref (h 0))]) hx hb dX11_provedShare_39 hl (k := 2) rfl (by decide) (by decide) rfl (fun ls hl => ?_)
                                refine lv_goto (tgt := 4) hx hb dX11_provedShare_42 (by decide) ?_
                                refine lv_iload_n hx hb dX11_provedShare_4 rfl (lv_at hl 0 rfl) ?_
                                refine lv_bipush (v := 100) hx hb dX11_provedShare_5 (by decide) ?_
                                refine lv_icmp_ge (tgt := 45) hx hb dX11_provedShare_7 (by decide) (fun c_61 => ?_) (fun c_61 => ?_)
                                · skip
                                  exact absurd c_61 (by decide)
                                · skip
                                  refine lv_aload_n hx hb dX11_provedShare_10 rfl (lv_at hl 3 rfl) ?_
                                  refine va_get (D := D) (ci := 11) (v := .ref (h 1)) (C := RX11) (T := TX11) (N := 15) hx hb ht zinX11 hown hK hP 0 rfl rfl 0 (by decide) (ht _ zw_353) (fun _ h9 => h9) rfl dX11_provedShare_11 ?_
                                  refine va_get (D := D) (ci := 8) (v := .ref (h 4)) (C := RX8) (T := TX8) (N := 11) hx hb ht zinX8 hown hK hP 1 rfl rfl 3 (by decide) (ht _ zw_470) (fun _ h9 => h9) rfl dX11_provedShare_14 ?_
                                  refine lv_iload_n hx hb dX11_provedShare_17 rfl (lv_at hl 0 rfl) ?_
                                  refine va_aldq hx hb hK hP 2 0 rfl rfl (vp_in_iff.mpr (by decide)) dX11_provedShare_18 ?_
                                  refine W.eq (g2 := F0 m 19 ls (.null :: [])) rfl ?_
                                  refine lv_astore_nN (lv' := [(3, .null), (2, .int 15), (1, .int 0), (0, .ref (h 0))]) hx hb dX11_provedShare_19 rfl hl (by decide) rfl (fun ls hl => ?_)
                                  refine lv_iload_n hx hb dX11_provedShare_20 rfl (lv_at hl 2 rfl) ?_
                                  refine lv_aload_nN hx hb dX11_provedShare_21 rfl (lv_at hl 0 rfl) ?_
                                  refine lv_ifnullN (tgt := 36) hx hb dX11_provedShare_22 (by decide) ?_
                                  refine lv_iconst (v := 0) hx hb dX11_provedShare_36 (by decide) ?_
                                  refine lv_iadd hx hb dX11_provedShare_37 ?_
                                  refine lv_topi (fun x_63 e_63 => ?_)
                                  obtain rfl : x_63 = 0 := e_63.trans (by decide)
                                  refine lv_istore_n (lv' := [(1, .int 0), (3, .null), (2, .int 15), (0, .ref (h 0))]) hx hb dX11_provedShare_38 rfl hl (by decide) rfl (fun ls hl => ?_)
                                  refine lv_iinc (v := 16) (lv' := [(2, .int 16), (1, .int 0), (3, .null), (0, .ref (h 0))]) hx hb dX11_provedShare_39 hl (k := 2) rfl (by decide) (by decide) rfl (fun ls hl => ?_)
                                  refine lv_goto (tgt := 4) hx hb dX11_provedShare_42 (by decide) ?_
                                  refine lv_iload_n hx hb dX11_provedShare_4 rfl (lv_at hl 0 rfl) ?_
                                  refine lv_bipush (v := 100) hx hb dX11_provedShare_5 (by decide) ?_
                                  refine lv_icmp_ge (tgt := 45) hx hb dX11_provedShare_7 (by decide) (fun c_65 => ?_) (fun c_65 => ?_)
                                  · skip
                                    exact absurd c_65 (by decide)
                                  · skip
                                    refine lv_aload_n hx hb dX11_provedShare_10 rfl (lv_at hl 3 rfl) ?_
                                    refine va_get (D := D) (ci := 11) (v := .ref (h 1)) (C := RX11) (T := TX11) (N := 15) hx hb ht zinX11 hown hK hP 0 rfl rfl 0 (by decide) (ht _ zw_353) (fun _ h9 => h9) rfl dX11_provedShare_11 ?_
                                    refine va_get (D := D) (ci := 8) (v := .ref (h 4)) (C := RX8) (T := TX8) (N := 11) hx hb ht zinX8 hown hK hP 1 rfl rfl 3 (by decide) (ht _ zw_470) (fun _ h9 => h9) rfl dX11_provedShare_14 ?_
                                    refine lv_iload_n hx hb dX11_provedShare_17 rfl (lv_at hl 0 rfl) ?_
                                    refine va_aldq hx hb hK hP 2 0 rfl rfl (vp_in_iff.mpr (by decide)) dX11_provedShare_18 ?_
                                    refine W.eq (g2 := F0 m 19 ls (.null :: [])) rfl ?_
                                    refine lv_astore_nN (lv' := [(3, .null), (2, .int 16), (1, .int 0), (0, .ref (h 0))]) hx hb dX11_provedShare_19 rfl hl (by decide) rfl (fun ls hl => ?_)
                                    refine lv_iload_n hx hb dX11_provedShare_20 rfl (lv_at hl 2 rfl) ?_
                                    refine lv_aload_nN hx hb dX11_provedShare_21 rfl (lv_at hl 0 rfl) ?_
                                    refine lv_ifnullN (tgt := 36) hx hb dX11_provedShare_22 (by decide) ?_
                                    refine lv_iconst (v := 0) hx hb dX11_provedShare_36 (by decide) ?_
                                    refine lv_iadd hx hb dX11_provedShare_37 ?_
                                    refine lv_topi (fun x_67 e_67 => ?_)
                                    obtain rfl : x_67 = 0 := e_67.trans (by decide)
                                    refine lv_istore_n (lv' := [(1, .int 0), (3, .null), (2, .int 16), (0, .ref (h 0))]) hx hb dX11_provedShare_38 rfl hl (by decide) rfl (fun ls hl => ?_)
                                    refine lv_iinc (v := 17) (lv' := [(2, .int 17), (1, .int 0), (3, .null), (0, .ref (h 0))]) hx hb dX11_provedShare_39 hl (k := 2) rfl (by decide) (by decide) rfl (fun ls hl => ?_)
                                    refine lv_goto (tgt := 4) hx hb dX11_provedShare_42 (by decide) ?_
                                    refine lv_iload_n hx hb dX11_provedShare_4 rfl (lv_at hl 0 rfl) ?_
                                    refine lv_bipush (v := 100) hx hb dX11_provedShare_5 (by decide) ?_
                                    refine lv_icmp_ge (tgt := 45) hx hb dX11_provedShare_7 (by decide) (fun c_69 => ?_) (fun c_69 => ?_)
                                    · skip
                                      exact absurd c_69 (by decide)
                                    · skip
                                      refine lv_aload_n hx hb dX11_provedShare_10 rfl (lv_at hl 3 rfl) ?_
                                      refine va_get (D := D) (ci := 11) (v := .ref (h 1)) (C := RX11) (T := TX11) (N := 15) hx hb ht zinX11 hown hK hP 0 rfl rfl 0 (by decide) (ht _ zw_353) (fun _ h9 => h9) rfl dX11_provedShare_11 ?_
                                      refine va_get (D := D) (ci := 8) (v := .ref (h 4)) (C := RX8) (T := TX8) (N := 11) hx hb ht zinX8 hown hK hP 1 rfl rfl 3 (by decide) (ht _ zw_470) (fun _ h9 => h9) rfl dX11_provedShare_14 ?_
                                      refine lv_iload_n hx hb dX11_provedShare_17 rfl (lv_at hl 0 rfl) ?_
                                      refine va_aldq hx hb hK hP 2 0 rfl rfl (vp_in_iff.mpr (by decide)) dX11_provedShare_18 ?_
                                      refine W.eq (g2 := F0 m 19 ls (.null :: [])) rfl ?_
                                      refine lv_astore_nN (lv' := [(3, .null), (2, .int 17), (1, .int 0), (0, .ref (h 0))]) hx hb dX11_provedShare_19 rfl hl (by decide) rfl (fun ls hl => ?_)
                                      refine lv_iload_n hx hb dX11_provedShare_20 rfl (lv_at hl 2 rfl) ?_
                                      refine lv_aload_nN hx hb dX11_provedShare_21 rfl (lv_at hl 0 rfl) ?_
                                      refine lv_ifnullN (tgt := 36) hx hb dX11_provedShare_22 (by decide) ?_
                                      refine lv_iconst (v := 0) hx hb dX11_provedShare_36 (by decide) ?_
                                      refine lv_iadd hx hb dX11_provedShare_37 ?_
                                      refine lv_topi (fun x_71 e_71 => ?_)
                                      obtain rfl : x_71 = 0 := e_71.trans (by decide)
                                      refine lv_istore_n (lv' := [(1, .int 0), (3, .null), (2, .int 17), (0, .ref (h 0))]) hx hb dX11_provedShare_38 rfl hl (by decide) rfl (fun ls hl => ?_)
                                      refine lv_iinc (v := 18) (lv' := [(2, .int 18), (1, .int 0), (3, .null), (0, .ref (h 0))]) hx hb dX11_provedShare_39 hl (k := 2) rfl (by decide) (by decide) rfl (fun ls hl => ?_)
                                      refine lv_goto (tgt := 4) hx hb dX11_provedShare_42 (by decide) ?_
                                      refine lv_iload_n hx hb dX11_provedShare_4 rfl (lv_at hl 0 rfl) ?_
                                      refine lv_bipush (v := 100) hx hb dX11_provedShare_5 (by decide) ?_
                                      refine lv_icmp_ge (tgt := 45) hx hb dX11_provedShare_7 (by decide) (fun c_73 => ?_) (fun c_73 => ?_)
                                      · skip
                                        exact absurd c_73 (by decide)
                                      · skip
                                        refine lv_aload_n hx hb dX11_provedShare_10 rfl (lv_at hl 3 rfl) ?_
                                        refine va_get (D := D) (ci := 11) (v := .ref (h 1)) (C := RX11) (T := TX11) (N := 15) hx hb ht zinX11 hown hK hP 0 rfl rfl 0 (by decide) (ht _ zw_353) (fun _ h9 => h9) rfl dX11_provedShare_11 ?_
                                        refine va_get (D := D) (ci := 8) (v := .ref (h 4)) (C := RX8) (T := TX8) (N := 11) hx hb ht zinX8 hown hK hP 1 rfl rfl 3 (by decide) (ht _ zw_470) (fun _ h9 => h9) rfl dX11_provedShare_14 ?_
                                        refine lv_iload_n hx hb dX11_provedShare_17 rfl (lv_at hl 0 rfl) ?_
                                        refine va_aldq hx hb hK hP 2 0 rfl rfl (vp_in_iff.mpr (by decide)) dX11_provedShare_18 ?_
                                        refine W.eq (g2 := F0 m 19 ls (.null :: [])) rfl ?_
                                        refine lv_astore_nN (lv' := [(3, .null), (2, .int 18), (1, .int 0), (0, .ref (h 0))]) hx hb dX11_provedShare_19 rfl hl (by decide) rfl (fun ls hl => ?_)
                                        refine lv_iload_n hx hb dX11_provedShare_20 rfl (lv_at hl 2 rfl) ?_
                                        refine lv_aload_nN hx hb dX11_provedShare_21 rfl (lv_at hl 0 rfl) ?_
                                        refine lv_ifnullN (tgt := 36) hx hb dX11_provedShare_22 (by decide) ?_
                                        refine lv_iconst (v := 0) hx hb dX11_provedShare_36 (by decide) ?_
                                        refine lv_iadd hx hb dX11_provedShare_37 ?_
                                        refine lv_topi (fun x_75 e_75 => ?_)
                                        obtain rfl : x_75 = 0 := e_75.trans (by decide)
                                        refine lv_istore_n (lv' := [(1, .int 0), (3, .null), (2, .int 18), (0, .ref (h 0))]) hx hb dX11_provedShare_38 rfl hl (by decide) rfl (fun ls hl => ?_)
                                        refine lv_iinc (v := 19) (lv' := [(2, .int 19), (1, .int 0), (3, .null), (0, .ref (h 0))]) hx hb dX11_provedShare_39 hl (k := 2) rfl (by decide) (by decide) rfl (fun ls hl => ?_)
                                        refine lv_goto (tgt := 4) hx hb dX11_provedShare_42 (by decide) ?_
                                        refine lv_iload_n hx hb dX11_provedShare_4 rfl (lv_at hl 0 rfl) ?_
                                        refine lv_bipush (v := 100) hx hb dX11_provedShare_5 (by decide) ?_
                                        refine lv_icmp_ge (tgt := 45) hx hb dX11_provedShare_7 (by decide) (fun c_77 => ?_) (fun c_77 => ?_)
                                        · skip
                                          exact absurd c_77 (by decide)
                                        · skip
                                          refine lv_aload_n hx hb dX11_provedShare_10 rfl (lv_at hl 3 rfl) ?_
                                          refine va_get (D := D) (ci := 11) (v := .ref (h 1)) (C := RX11) (T := TX11) (N := 15) hx hb ht zinX11 hown hK hP 0 rfl rfl 0 (by decide) (ht _ zw_353) (fun _ h9 => h9) rfl dX11_provedShare_11 ?_
                                          refine va_get (D := D) (ci := 8) (v := .ref (h 4)) (C := RX8) (T := TX8) (N := 11) hx hb ht zinX8 hown hK hP 1 rfl rfl 3 (by decide) (ht _ zw_470) (fun _ h9 => h9) rfl dX11_provedShare_14 ?_
                                          refine lv_iload_n hx hb dX11_provedShare_17 rfl (lv_at hl 0 rfl) ?_
                                          refine va_aldq hx hb hK hP 2 0 rfl rfl (vp_in_iff.mpr (by decide)) dX11_provedShare_18 ?_
                                          refine W.eq (g2 := F0 m 19 ls (.null :: [])) rfl ?_
                                          refine lv_astore_nN (lv' := [(3, .null), (2, .int 19), (1, .int 0), (0, .ref (h 0))]) hx hb dX11_provedShare_19 rfl hl (by decide) rfl (fun ls hl => ?_)
                                          refine lv_iload_n hx hb dX11_provedShare_20 rfl (lv_at hl 2 rfl) ?_
                                          refine lv_aload_nN hx hb dX11_provedShare_21 rfl (lv_at hl 0 rfl) ?_
                                          refine lv_ifnullN (tgt := 36) hx hb dX11_provedShare_22 (by decide) ?_
                                          refine lv_iconst (v := 0) hx hb dX11_provedShare_36 (by decide) ?_
                                          refine lv_iadd hx hb dX11_provedShare_37 ?_
                                          refine lv_topi (fun x_79 e_79 => ?_)
                                          obtain rfl : x_79 = 0 := e_79.trans (by decide)
                                          refine lv_istore_n (lv' := [(1, .int 0), (3, .null), (2, .int 19), (0, .ref (h 0))]) hx hb dX11_provedShare_38 rfl hl (by decide) rfl (fun ls hl => ?_)
                                          refine lv_iinc (v := 20) (lv' := [(2, .int 20), (1, .int 0), (3, .null), (0, .ref (h 0))]) hx hb dX11_provedShare_39 hl (k := 2) rfl (by decide) (by decide) rfl (fun ls hl => ?_)
                                          refine lv_goto (tgt := 4) hx hb dX11_provedShare_42 (by decide) ?_
                                          refine lv_iload_n hx hb dX11_provedShare_4 rfl (lv_at hl 0 rfl) ?_
                                          refine lv_bipush (v := 100) hx hb dX11_provedShare_5 (by decide) ?_
                                          refine lv_icmp_ge (tgt := 45) hx hb dX11_provedShare_7 (by decide) (fun c_81 => ?_) (fun c_81 => ?_)
                                          · skip
                                            exact absurd c_81 (by decide)
                                          · skip
                                            refine lv_aload_n hx hb dX11_provedShare_10 rfl (lv_at hl 3 rfl) ?_
                                            refine va_get (D := D) (ci := 11) (v := .ref (h 1)) (C := RX11) (T := TX11) (N := 15) hx hb ht zinX11 hown hK hP 0 rfl rfl 0 (by decide) (ht _ zw_353) (fun _ h9 => h9) rfl dX11_provedShare_11 ?_
                                            refine va_get (D := D) (ci := 8) (v := .ref (h 4)) (C := RX8) (T := TX8) (N := 11) hx hb ht zinX8 hown hK hP 1 rfl rfl 3 (by decide) (ht _ zw_470) (fun _ h9 => h9) rfl dX11_provedShare_14 ?_
                                            refine lv_iload_n hx hb dX11_provedShare_17 rfl (lv_at hl 0 rfl) ?_
                                            refine va_aldq hx hb hK hP 2 0 rfl rfl (vp_in_iff.mpr (by decide)) dX11_provedShare_18 ?_
                                            refine W.eq (g2 := F0 m 19 ls (.null :: [])) rfl ?_
                                            refine lv_astore_nN (lv' := [(3, .null), (2, .int 20), (1, .int 0), (0, .ref (h 0))]) hx hb dX11_provedShare_19 rfl hl (by decide) rfl (fun ls hl => ?_)
                                            refine lv_iload_n hx hb dX11_provedShare_20 rfl (lv_at hl 2 rfl) ?_
                                            refine lv_aload_nN hx hb dX11_provedShare_21 rfl (lv_at hl 0 rfl) ?_
                                            refine lv_ifnullN (tgt := 36) hx hb dX11_provedShare_22 (by decide) ?_
                                            refine lv_iconst (v := 0) hx hb dX11_provedShare_36 (by decide) ?_
                                            refine lv_iadd hx hb dX11_provedShare_37 ?_
                                            refine lv_topi (fun x_83 e_83 => ?_)
                                            obtain rfl : x_83 = 0 := e_83.trans (by decide)
                                            refine lv_istore_n (lv' := [(1, .int 0), (3, .null), (2, .int 20), (0, .ref (h 0))]) hx hb dX11_provedShare_38 rfl hl (by decide) rfl (fun ls hl => ?_)
                                            refine lv_iinc (v := 21) (lv' := [(2, .int 21), (1, .int 0), (3, .null), (0, .ref (h 0))]) hx hb dX11_provedShare_39 hl (k := 2) rfl (by decide) (by decide) rfl (fun ls hl => ?_)
                                            refine lv_goto (tgt := 4) hx hb dX11_provedShare_42 (by decide) ?_
                                            refine lv_iload_n hx hb dX11_provedShare_4 rfl (lv_at hl 0 rfl) ?_
                                            refine lv_bipush (v := 100) hx hb dX11_provedShare_5 (by decide) ?_
                                            refine lv_icmp_ge (tgt := 45) hx hb dX11_provedShare_7 (by decide) (fun c_85 => ?_) (fun c_85 => ?_)
                                            · skip
                                              exact absurd c_85 (by decide)
                                            · skip
                                              refine lv_aload_n hx hb dX11_provedShare_10 rfl (lv_at hl 3 rfl) ?_
                                              refine va_get (D := D) (ci := 11) (v := .ref (h 1)) (C := RX11) (T := TX11) (N := 15) hx hb ht zinX11 hown hK hP 0 rfl rfl 0 (by decide) (ht _ zw_353) (fun _ h9 => h9) rfl dX11_provedShare_11 ?_
                                              refine va_get (D := D) (ci := 8) (v := .ref (h 4)) (C := RX8) (T := TX8) (N := 11) hx hb ht zinX8 hown hK hP 1 rfl rfl 3 (by decide) (ht _ zw_470) (fun _ h9 => h9) rfl dX11_provedShare_14 ?_
                                              refine lv_iload_n hx hb dX11_provedShare_17 rfl (lv_at hl 0 rfl) ?_
                                              refine va_aldq hx hb hK hP 2 0 rfl rfl (vp_in_iff.mpr (by decide)) dX11_provedShare_18 ?_
                                              refine W.eq (g2 := F0 m 19 ls (.null :: [])) rfl ?_
                                              refine lv_astore_nN (lv' := [(3, .null), (2, .int 21), (1, .int 0), (0, .ref (h 0))]) hx hb dX11_provedShare_19 rfl hl (by decide) rfl (fun ls hl => ?_)
                                              refine lv_iload_n hx hb dX11_provedShare_20 rfl (lv_at hl 2 rfl) ?_
                                              refine lv_aload_nN hx hb dX11_provedShare_21 rfl (lv_at hl 0 rfl) ?_
                                              refine lv_ifnullN (tgt := 36) hx hb dX11_provedShare_22 (by decide) ?_
                                              refine lv_iconst (v := 0) hx hb dX11_provedShare_36 (by decide) ?_
                                              refine lv_iadd hx hb dX11_provedShare_37 ?_
                                              refine lv_topi (fun x_87 e_87 => ?_)
                                              obtain rfl : x_87 = 0 := e_87.trans (by decide)
                                              refine lv_istore_n (lv' := [(1, .int 0), (3, .null), (2, .int 21), (0, .ref (h 0))]) hx hb dX11_provedShare_38 rfl hl (by decide) rfl (fun ls hl => ?_)
                                              refine lv_iinc (v := 22) (lv' := [(2, .int 22), (1, .int 0), (3, .null), (0, .ref (h 0))]) hx hb dX11_provedShare_39 hl (k := 2) rfl (by decide) (by decide) rfl (fun ls hl => ?_)
                                              refine lv_goto (tgt := 4) hx hb dX11_provedShare_42 (by decide) ?_
                                              refine lv_iload_n hx hb dX11_provedShare_4 rfl (lv_at hl 0 rfl) ?_
                                              refine lv_bipush (v := 100) hx hb dX11_provedShare_5 (by decide) ?_
                                              refine lv_icmp_ge (tgt := 45) hx hb dX11_provedShare_7 (by decide) (fun c_89 => ?_) (fun c_89 => ?_)
                                              · skip
                                                exact absurd c_89 (by decide)
                                              · skip
                                                refine lv_aload_n hx hb dX11_provedShare_10 rfl (lv_at hl 3 rfl) ?_
                                                refine va_get (D := D) (ci := 11) (v := .ref (h 1)) (C := RX11) (T := TX11) (N := 15) hx hb ht zinX11 hown hK hP 0 rfl rfl 0 (by decide) (ht _ zw_353) (fun _ h9 => h9) rfl dX11_provedShare_11 ?_
                                                refine va_get (D := D) (ci := 8) (v := .ref (h 4)) (C := RX8) (T := TX8) (N := 11) hx hb ht zinX8 hown hK hP 1 rfl rfl 3 (by decide) (ht _ zw_470) (fun _ h9 => h9) rfl dX11_provedShare_14 ?_
                                                refine lv_iload_n hx hb dX11_provedShare_17 rfl (lv_at hl 0 rfl) ?_
                                                refine va_aldq hx hb hK hP 2 0 rfl rfl (vp_in_iff.mpr (by decide)) dX11_provedShare_18 ?_
                                                refine W.eq (g2 := F0 m 19 ls (.null :: [])) rfl ?_
                                                refine lv_astore_nN (lv' := [(3, .null), (2, .int 22), (1, .int 0), (0, .ref (h 0))]) hx hb dX11_provedShare_19 rfl hl (by decide) rfl (fun ls hl => ?_)
                                                refine lv_iload_n hx hb dX11_provedShare_20 rfl (lv_at hl 2 rfl) ?_
                                                refine lv_aload_nN hx hb dX11_provedShare_21 rfl (lv_at hl 0 rfl) ?_
                                                refine lv_ifnullN (tgt := 36) hx hb dX11_provedShare_22 (by decide) ?_
                                                refine lv_iconst (v := 0) hx hb dX11_provedShare_36 (by decide) ?_
                                                refine lv_iadd hx hb dX11_provedShare_37 ?_
                                                refine lv_topi (fun x_91 e_91 => ?_)
                                                obtain rfl : x_91 = 0 := e_91.trans (by decide)
                                                refine lv_istore_n (lv' := [(1, .int 0), (3, .null), (2, .int 22), (0, .ref (h 0))]) hx hb dX11_provedShare_38 rfl hl (by decide) rfl (fun ls hl => ?_)
                                                refine lv_iinc (v := 23) (lv' := [(2, .int 23), (1, .int 0), (3, .null), (0, .ref (h 0))]) hx hb dX11_provedShare_39 hl (k := 2) rfl (by decide) (by decide) rfl (fun ls hl => ?_)
                                                refine lv_goto (tgt := 4) hx hb dX11_provedShare_42 (by decide) ?_
                                                refine lv_iload_n hx hb dX11_provedShare_4 rfl (lv_at hl 0 rfl) ?_
                                                refine lv_bipush (v := 100) hx hb dX11_provedShare_5 (by decide) ?_
                                                refine lv_icmp_ge (tgt := 45) hx hb dX11_provedShare_7 (by decide) (fun c_93 => ?_) (fun c_93 => ?_)
                                                · skip
                                                  exact absurd c_93 (by decide)
                                                · skip
                                                  refine lv_aload_n hx hb dX11_provedShare_10 rfl (lv_at hl 3 rfl) ?_
                                                  refine va_get (D := D) (ci := 11) (v := .ref (h 1)) (C := RX11) (T := TX11) (N := 15) hx hb ht zinX11 hown hK hP 0 rfl rfl 0 (by decide) (ht _ zw_353) (fun _ h9 => h9) rfl dX11_provedShare_11 ?_
                                                  refine va_get (D := D) (ci := 8) (v := .ref (h 4)) (C := RX8) (T := TX8) (N := 11) hx hb ht zinX8 hown hK hP 1 rfl rfl 3 (by decide) (ht _ zw_470) (fun _ h9 => h9) rfl dX11_provedShare_14 ?_
                                                  refine lv_iload_n hx hb dX11_provedShare_17 rfl (lv_at hl 0 rfl) ?_
                                                  refine va_aldq hx hb hK hP 2 0 rfl rfl (vp_in_iff.mpr (by decide)) dX11_provedShare_18 ?_
                                                  refine W.eq (g2 := F0 m 19 ls (.null :: [])) rfl ?_
                                                  refine lv_astore_nN (lv' := [(3, .null), (2, .int 23), (1, .int 0), (0, .ref (h 0))]) hx hb dX11_provedShare_19 rfl hl (by decide) rfl (fun ls hl => ?_)
                                                  refine lv_iload_n hx hb dX11_provedShare_20 rfl (lv_at hl 2 rfl) ?_
                                                  refine lv_aload_nN hx hb dX11_provedShare_21 rfl (lv_at hl 0 rfl) ?_
                                                  refine lv_ifnullN (tgt := 36) hx hb dX11_provedShare_22 (by decide) ?_
                                                  refine lv_iconst (v := 0) hx hb dX11_provedShare_36 (by decide) ?_
                                                  refine lv_iadd hx hb dX11_provedShare_37 ?_
                                                  refine lv_topi (fun x_95 e_95 => ?_)
                                                  obtain rfl : x_95 = 0 := e_95.trans (by decide)
                                                  refine lv_istore_n (lv' := [(1, .int 0), (3, .null), (2, .int 23), (0, .ref (h 0))]) hx hb dX11_provedShare_38 rfl hl (by decide) rfl (fun ls hl => ?_)
                                                  refine lv_iinc (v := 24) (lv' := [(2, .int 24), (1, .int 0), (3, .null), (0, .ref (h 0))]) hx hb dX11_provedShare_39 hl (k := 2) rfl (by decide) (by decide) rfl (fun ls hl => ?_)
                                                  refine lv_goto (tgt := 4) hx hb dX11_provedShare_42 (by decide) ?_
                                                  refine lv_iload_n hx hb dX11_provedShare_4 rfl (lv_at hl 0 rfl) ?_
                                                  refine lv_bipush (v := 100) hx hb dX11_provedShare_5 (by decide) ?_
                                                  refine lv_icmp_ge (tgt := 45) hx hb dX11_provedShare_7 (by decide) (fun c_97 => ?_) (fun c_97 => ?_)
                                                  · skip
                                                    exact absurd c_97 (by decide)
                                                  · skip
                                                    refine lv_aload_n hx hb dX11_provedShare_10 rfl (lv_at hl 3 rfl) ?_
                                                    refine va_get (D := D) (ci := 11) (v := .ref (h 1)) (C := RX11) (T := TX11) (N := 15) hx hb ht zinX11 hown hK hP 0 rfl rfl 0 (by decide) (ht _ zw_353) (fun _ h9 => h9) rfl dX11_provedShare_11 ?_
                                                    refine va_get (D := D) (ci := 8) (v := .ref (h 4)) (C := RX8) (T := TX8) (N := 11) hx hb ht zinX8 hown hK hP 1 rfl rfl 3 (by decide) (ht _ zw_470) (fun _ h9 => h9) rfl dX11_provedShare_14 ?_
                                                    refine lv_iload_n hx hb dX11_provedShare_17 rfl (lv_at hl 0 rfl) ?_
                                                    refine va_aldq hx hb hK hP 2 0 rfl rfl (vp_in_iff.mpr (by decide)) dX11_provedShare_18 ?_
                                                    refine W.eq (g2 := F0 m 19 ls (.null :: [])) rfl ?_
                                                    refine lv_astore_nN (lv' := [(3, .null), (2, .int 24), (1, .int 0), (0, .ref (h 0))]) hx hb dX11_provedShare_19 rfl hl (by decide) rfl (fun ls hl => ?_)
                                                    refine lv_iload_n hx hb dX11_provedShare_20 rfl (lv_at hl 2 rfl) ?_
                                                    refine lv_aload_nN hx hb dX11_provedShare_21 rfl (lv_at hl 0 rfl) ?_
                                                    refine lv_ifnullN (tgt := 36) hx hb dX11_provedShare_22 (by decide) ?_
                                                    refine lv_iconst (v := 0) hx hb dX11_provedShare_36 (by decide) ?_
                                                    refine lv_iadd hx hb dX11_provedShare_37 ?_
                                                    refine lv_topi (fun x_99 e_99 => ?_)
                                                    obtain rfl : x_99 = 0 := e_99.trans (by decide)
                                                    refine lv_istore_n (lv' := [(1, .int 0), (3, .null), (2, .int 24), (0, .ref (h 0))]) hx hb dX11_provedShare_38 rfl hl (by decide) rfl (fun ls hl => ?_)
                                                    refine lv_iinc (v := 25) (lv' := [(2, .int 25), (1, .int 0), (3, .null), (0, .ref (h 0))]) hx hb dX11_provedShare_39 hl (k := 2) rfl (by decide) (by decide) rfl (fun ls hl => ?_)
                                                    refine lv_goto (tgt := 4) hx hb dX11_provedShare_42 (by decide) ?_
                                                    refine lv_iload_n hx hb dX11_provedShare_4 rfl (lv_at hl 0 rfl) ?_
                                                    refine lv_bipush (v := 100) hx hb dX11_provedShare_5 (by decide) ?_
                                                    refine lv_icmp_ge (tgt := 45) hx hb dX11_provedShare_7 (by decide) (fun c_101 => ?_) (fun c_101 => ?_)
                                                    · skip
                                                      exact absurd c_101 (by decide)
                                                    · skip
                                                      refine lv_aload_n hx hb dX11_provedShare_10 rfl (lv_at hl 3 rfl) ?_
                                                      refine va_get (D := D) (ci := 11) (v := .ref (h 1)) (C := RX11) (T := TX11) (N := 15) hx hb ht zinX11 hown hK hP 0 rfl rfl 0 (by decide) (ht _ zw_353) (fun _ h9 => h9) rfl dX11_provedShare_11 ?_
                                                      refine va_get (D := D) (ci := 8) (v := .ref (h 4)) (C := RX8) (T := TX8) (N := 11) hx hb ht zinX8 hown hK hP 1 rfl rfl 3 (by decide) (ht _ zw_470) (fun _ h9 => h9) rfl dX11_provedShare_14 ?_
                                                      refine lv_iload_n hx hb dX11_provedShare_17 rfl (lv_at hl 0 rfl) ?_
                                                      refine va_aldq hx hb hK hP 2 0 rfl rfl (vp_in_iff.mpr (by decide)) dX11_provedShare_18 ?_
                                                      refine W.eq (g2 := F0 m 19 ls (.null :: [])) rfl ?_
                                                      refine lv_astore_nN (lv' := [(3, .null), (2, .int 25), (1, .int 0), (0, .ref (h 0))]) hx hb dX11_provedShare_19 rfl hl (by decide) rfl (fun ls hl => ?_)
                                                      refine lv_iload_n hx hb dX11_provedShare_20 rfl (lv_at hl 2 rfl) ?_
                                                      refine lv_aload_nN hx hb dX11_provedShare_21 rfl (lv_at hl 0 rfl) ?_
                                                      refine lv_ifnullN (tgt := 36) hx hb dX11_provedShare_22 (by decide) ?_
                                                      refine lv_iconst (v := 0) hx hb dX11_provedShare_36 (by decide) ?_
                                                      refine lv_iadd hx hb dX11_provedShare_37 ?_
                                                      refine lv_topi (fun x_103 e_103 => ?_)
                                                      obtain rfl : x_103 = 0 := e_103.trans (by decide)
                                                      refine lv_istore_n (lv' := [(1, .int 0), (3, .null), (2, .int 25), (0, .ref (h 0))]) hx hb dX11_provedShare_38 rfl hl (by decide) rfl (fun ls hl => ?_)
                                                      refine lv_iinc (v := 26) (lv' := [(2, .int 26), (1, .int 0), (3, .null), (0, .ref (h 0))]) hx hb dX11_provedShare_39 hl (k := 2) rfl (by decide) (by decide) rfl (fun ls hl => ?_)
                                                      refine lv_goto (tgt := 4) hx hb dX11_provedShare_42 (by decide) ?_
                                                      refine lv_iload_n hx hb dX11_provedShare_4 rfl (lv_at hl 0 rfl) ?_
                                                      refine lv_bipush (v := 100) hx hb dX11_provedShare_5 (by decide) ?_
                                                      refine lv_icmp_ge (tgt := 45) hx hb dX11_provedShare_7 (by decide) (fun c_105 => ?_) (fun c_105 => ?_)
                                                      · skip
                                                        exact absurd c_105 (by decide)
                                                      · skip
                                                        refine lv_aload_n hx hb dX11_provedShare_10 rfl (lv_at hl 3 rfl) ?_
                                                        refine va_get (D := D) (ci := 11) (v := .ref (h 1)) (C := RX11) (T := TX11) (N := 15) hx hb ht zinX11 hown hK hP 0 rfl rfl 0 (by decide) (ht _ zw_353) (fun _ h9 => h9) rfl dX11_provedShare_11 ?_
                                                        refine va_get (D := D) (ci := 8) (v := .ref (h 4)) (C := RX8) (T := TX8) (N := 11) hx hb ht zinX8 hown hK hP 1 rfl rfl 3 (by decide) (ht _ zw_470) (fun _ h9 => h9) rfl dX11_provedShare_14 ?_
                                                        refine lv_iload_n hx hb dX11_provedShare_17 rfl (lv_at hl 0 rfl) ?_
                                                        refine va_aldq hx hb hK hP 2 0 rfl rfl (vp_in_iff.mpr (by decide)) dX11_provedShare_18 ?_
                                                        refine W.eq (g2 := F0 m 19 ls (.null :: [])) rfl ?_
                                                        refine lv_astore_nN (lv' := [(3, .null), (2, .int 26), (1, .int 0), (0, .ref (h 0))]) hx hb dX11_provedShare_19 rfl hl (by decide) rfl (fun ls hl => ?_)
                                                        refine lv_iload_n hx hb dX11_provedShare_20 rfl (lv_at hl 2 rfl) ?_
                                                        refine lv_aload_nN hx hb dX11_provedShare_21 rfl (lv_at hl 0 rfl) ?_
                                                        refine lv_ifnullN (tgt := 36) hx hb dX11_provedShare_22 (by decide) ?_
                                                        refine lv_iconst (v := 0) hx hb dX11_provedShare_36 (by decide) ?_
                                                        refine lv_iadd hx hb dX11_provedShare_37 ?_
                                                        refine lv_topi (fun x_107 e_107 => ?_)
                                                        obtain rfl : x_107 = 0 := e_107.trans (by decide)
                                                        refine lv_istore_n (lv' := [(1, .int 0), (3, .null), (2, .int 26), (0, .ref (h 0))]) hx hb dX11_provedShare_38 rfl hl (by decide) rfl (fun ls hl => ?_)
                                                        refine lv_iinc (v := 27) (lv' := [(2, .int 27), (1, .int 0), (3, .null), (0, .ref (h 0))]) hx hb dX11_provedShare_39 hl (k := 2) rfl (by decide) (by decide) rfl (fun ls hl => ?_)
                                                        refine lv_goto (tgt := 4) hx hb dX11_provedShare_42 (by decide) ?_
                                                        refine lv_iload_n hx hb dX11_provedShare_4 rfl (lv_at hl 0 rfl) ?_
                                                        refine lv_bipush (v := 100) hx hb dX11_provedShare_5 (by decide) ?_
                                                        refine lv_icmp_ge (tgt := 45) hx hb dX11_provedShare_7 (by decide) (fun c_109 => ?_) (fun c_109 => ?_)
                                                        · skip
                                                          exact absurd c_109 (by decide)
                                                        · skip
                                                          refine lv_aload_n hx hb dX11_provedShare_10 rfl (lv_at hl 3 rfl) ?_
                                                          refine va_get (D := D) (ci := 11) (v := .ref (h 1)) (C := RX11) (T := TX11) (N := 15) hx hb ht zinX11 hown hK hP 0 rfl rfl 0 (by decide) (ht _ zw_353) (fun _ h9 => h9) rfl dX11_provedShare_11 ?_
                                                          refine va_get (D := D) (ci := 8) (v := .ref (h 4)) (C := RX8) (T := TX8) (N := 11) hx hb ht zinX8 hown hK hP 1 rfl rfl 3 (by decide) (ht _ zw_470) (fun _ h9 => h9) rfl dX11_provedShare_14 ?_
                                                          refine lv_iload_n hx hb dX11_provedShare_17 rfl (lv_at hl 0 rfl) ?_
                                                          refine va_aldq hx hb hK hP 2 0 rfl rfl (vp_in_iff.mpr (by decide)) dX11_provedShare_18 ?_
                                                          refine W.eq (g2 := F0 m 19 ls (.null :: [])) rfl ?_
                                                          refine lv_astore_nN (lv' := [(3, .null), (2, .int 27), (1, .int 0), (0, .ref (h 0))]) hx hb dX11_provedShare_19 rfl hl (by decide) rfl (fun ls hl => ?_)
                                                          refine lv_iload_n hx hb dX11_provedShare_20 rfl (lv_at hl 2 rfl) ?_
                                                          refine lv_aload_nN hx hb dX11_provedShare_21 rfl (lv_at hl 0 rfl) ?_
                                                          refine lv_ifnullN (tgt := 36) hx hb dX11_provedShare_22 (by decide) ?_
                                                          refine lv_iconst (v := 0) hx hb dX11_provedShare_36 (by decide) ?_
                                                          refine lv_iadd hx hb dX11_provedShare_37 ?_
                                                          refine lv_topi (fun x_111 e_111 => ?_)
                                                          obtain rfl : x_111 = 0 := e_111.trans (by decide)
                                                          refine lv_istore_n (lv' := [(1, .int 0), (3, .null), (2, .int 27), (0, .ref (h 0))]) hx hb dX11_provedShare_38 rfl hl (by decide) rfl (fun ls hl => ?_)
                                                          refine lv_iinc (v := 28) (lv' := [(2, .int 28), (1, .int 0), (3, .null), (0, .ref (h 0))]) hx hb dX11_provedShare_39 hl (k := 2) rfl (by decide) (by decide) rfl (fun ls hl => ?_)
                                                          refine lv_goto (tgt := 4) hx hb dX11_provedShare_42 (by decide) ?_
                                                          refine lv_iload_n hx hb dX11_provedShare_4 rfl (lv_at hl 0 rfl) ?_
                                                          refine lv_bipush (v := 100) hx hb dX11_provedShare_5 (by decide) ?_
                                                          refine lv_icmp_ge (tgt := 45) hx hb dX11_provedShare_7 (by decide) (fun c_113 => ?_) (fun c_113 => ?_)
                                                          · skip
                                                            exact absurd c_113 (by decide)
                                                          · skip
                                                            refine lv_aload_n hx hb dX11_provedShare_10 rfl (lv_at hl 3 rfl) ?_
                                                            refine va_get (D := D) (ci := 11) (v := .ref (h 1)) (C := RX11) (T := TX11) (N := 15) hx hb ht zinX11 hown hK hP 0 rfl rfl 0 (by decide) (ht _ zw_353) (fun _ h9 => h9) rfl dX11_provedShare_11 ?_
                                                            refine va_get (D := D) (ci := 8) (v := .ref (h 4)) (C := RX8) (T := TX8) (N := 11) hx hb ht zinX8 hown hK hP 1 rfl rfl 3 (by decide) (ht _ zw_470) (fun _ h9 => h9) rfl dX11_provedShare_14 ?_
                                                            refine lv_iload_n hx hb dX11_provedShare_17 rfl (lv_at hl 0 rfl) ?_
                                                            refine va_aldq hx hb hK hP 2 0 rfl rfl (vp_in_iff.mpr (by decide)) dX11_provedShare_18 ?_
                                                            refine W.eq (g2 := F0 m 19 ls (.null :: [])) rfl ?_
                                                            refine lv_astore_nN (lv' := [(3, .null), (2, .int 28), (1, .int 0), (0, .ref (h 0))]) hx hb dX11_provedShare_19 rfl hl (by decide) rfl (fun ls hl => ?_)
                                                            refine lv_iload_n hx hb dX11_provedShare_20 rfl (lv_at hl 2 rfl) ?_
                                                            refine lv_aload_nN hx hb dX11_provedShare_21 rfl (lv_at hl 0 rfl) ?_
                                                            refine lv_ifnullN (tgt := 36) hx hb dX11_provedShare_22 (by decide) ?_
                                                            refine lv_iconst (v := 0) hx hb dX11_provedShare_36 (by decide) ?_
                                                            refine lv_iadd hx hb dX11_provedShare_37 ?_
                                                            refine lv_topi (fun x_115 e_115 => ?_)
                                                            obtain rfl : x_115 = 0 := e_115.trans (by decide)
                                                            refine lv_istore_n (lv' := [(1, .int 0), (3, .null), (2, .int 28), (0, .ref (h 0))]) hx hb dX11_provedShare_38 rfl hl (by decide) rfl (fun ls hl => ?_)
                                                            refine lv_iinc (v := 29) (lv' := [(2, .int 29), (1, .int 0), (3, .null), (0, .ref (h 0))]) hx hb dX11_provedShare_39 hl (k := 2) rfl (by decide) (by decide) rfl (fun ls hl => ?_)
                                                            refine lv_goto (tgt := 4) hx hb dX11_provedShare_42 (by decide) ?_
                                                            refine lv_iload_n hx hb dX11_provedShare_4 rfl (lv_at hl 0 rfl) ?_
                                                            refine lv_bipush (v := 100) hx hb dX11_provedShare_5 (by decide) ?_
                                                            refine lv_icmp_ge (tgt := 45) hx hb dX11_provedShare_7 (by decide) (fun c_117 => ?_) (fun c_117 => ?_)
                                                            · skip
                                                              exact absurd c_117 (by decide)
                                                            · skip
                                                              refine lv_aload_n hx hb dX11_provedShare_10 rfl (lv_at hl 3 rfl) ?_
                                                              refine va_get (D := D) (ci := 11) (v := .ref (h 1)) (C := RX11) (T := TX11) (N := 15) hx hb ht zinX11 hown hK hP 0 rfl rfl 0 (by decide) (ht _ zw_353) (fun _ h9 => h9) rfl dX11_provedShare_11 ?_
                                                              refine va_get (D := D) (ci := 8) (v := .ref (h 4)) (C := RX8) (T := TX8) (N := 11) hx hb ht zinX8 hown hK hP 1 rfl rfl 3 (by decide) (ht _ zw_470) (fun _ h9 => h9) rfl dX11_provedShare_14 ?_
                                                              refine lv_iload_n hx hb dX11_provedShare_17 rfl (lv_at hl 0 rfl) ?_
                                                              refine va_aldq hx hb hK hP 2 0 rfl rfl (vp_in_iff.mpr (by decide)) dX11_provedShare_18 ?_
                                                              refine W.eq (g2 := F0 m 19 ls (.null :: [])) rfl ?_
                                                              refine lv_astore_nN (lv' := [(3, .null), (2, .int 29), (1, .int 0), (0, .ref (h 0))]) hx hb dX11_provedShare_19 rfl hl (by decide) rfl (fun ls hl => ?_)
                                                              refine lv_iload_n hx hb dX11_provedShare_20 rfl (lv_at hl 2 rfl) ?_
                                                              refine lv_aload_nN hx hb dX11_provedShare_21 rfl (lv_at hl 0 rfl) ?_
                                                              refine lv_ifnullN (tgt := 36) hx hb dX11_provedShare_22 (by decide) ?_
                                                              refine lv_iconst (v := 0) hx hb dX11_provedShare_36 (by decide) ?_
                                                              refine lv_iadd hx hb dX11_provedShare_37 ?_
                                                              refine lv_topi (fun x_119 e_119 => ?_)
                                                              obtain rfl : x_119 = 0 := e_119.trans (by decide)
                                                              refine lv_istore_n (lv' := [(1, .int 0), (3, .null), (2, .int 29), (0, .ref (h 0))]) hx hb dX11_provedShare_38 rfl hl (by decide) rfl (fun ls hl => ?_)
                                                              refine lv_iinc (v := 30) (lv' := [(2, .int 30), (1, .int 0), (3, .null), (0, .ref (h 0))]) hx hb dX11_provedShare_39 hl (k := 2) rfl (by decide) (by decide) rfl (fun ls hl => ?_)
                                                              refine lv_goto (tgt := 4) hx hb dX11_provedShare_42 (by decide) ?_
                                                              refine lv_iload_n hx hb dX11_provedShare_4 rfl (lv_at hl 0 rfl) ?_
                                                              refine lv_bipush (v := 100) hx hb dX11_provedShare_5 (by decide) ?_
                                                              refine lv_icmp_ge (tgt := 45) hx hb dX11_provedShare_7 (by decide) (fun c_121 => ?_) (fun c_121 => ?_)
                                                              · skip
                                                                exact absurd c_121 (by decide)
                                                              · skip
                                                                refine lv_aload_n hx hb dX11_provedShare_10 rfl (lv_at hl 3 rfl) ?_
                                                                refine va_get (D := D) (ci := 11) (v := .ref (h 1)) (C := RX11) (T := TX11) (N := 15) hx hb ht zinX11 hown hK hP 0 rfl rfl 0 (by decide) (ht _ zw_353) (fun _ h9 => h9) rfl dX11_provedShare_11 ?_
                                                                refine va_get (D := D) (ci := 8) (v := .ref (h 4)) (C := RX8) (T := TX8) (N := 11) hx hb ht zinX8 hown hK hP 1 rfl rfl 3 (by decide) (ht _ zw_470) (fun _ h9 => h9) rfl dX11_provedShare_14 ?_
                                                                refine lv_iload_n hx hb dX11_provedShare_17 rfl (lv_at hl 0 rfl) ?_
                                                                refine va_aldq hx hb hK hP 2 0 rfl rfl (vp_in_iff.mpr (by decide)) dX11_provedShare_18 ?_
                                                                refine W.eq (g2 := F0 m 19 ls (.null :: [])) rfl ?_
                                                                refine lv_astore_nN (lv' := [(3, .null), (2, .int 30), (1, .int 0), (0, .ref (h 0))]) hx hb dX11_provedShare_19 rfl hl (by decide) rfl (fun ls hl => ?_)
                                                                refine lv_iload_n hx hb dX11_provedShare_20 rfl (lv_at hl 2 rfl) ?_
                                                                refine lv_aload_nN hx hb dX11_provedShare_21 rfl (lv_at hl 0 rfl) ?_
                                                                refine lv_ifnullN (tgt := 36) hx hb dX11_provedShare_22 (by decide) ?_
                                                                refine lv_iconst (v := 0) hx hb dX11_provedShare_36 (by decide) ?_
                                                                refine lv_iadd hx hb dX11_provedShare_37 ?_
                                                                refine lv_topi (fun x_123 e_123 => ?_)
                                                                obtain rfl : x_123 = 0 := e_123.trans (by decide)
                                                                refine lv_istore_n (lv' := [(1, .int 0), (3, .null), (2, .int 30), (0, .ref (h 0))]) hx hb dX11_provedShare_38 rfl hl (by decide) rfl (fun ls hl => ?_)
                                                                refine lv_iinc (v := 31) (lv' := [(2, .int 31), (1, .int 0), (3, .null), (0, .ref (h 0))]) hx hb dX11_provedShare_39 hl (k := 2) rfl (by decide) (by decide) rfl (fun ls hl => ?_)
                                                                refine lv_goto (tgt := 4) hx hb dX11_provedShare_42 (by decide) ?_
                                                                refine lv_iload_n hx hb dX11_provedShare_4 rfl (lv_at hl 0 rfl) ?_
                                                                refine lv_bipush (v := 100) hx hb dX11_provedShare_5 (by decide) ?_
                                                                refine lv_icmp_ge (tgt := 45) hx hb dX11_provedShare_7 (by decide) (fun c_125 => ?_) (fun c_125 => ?_)
                                                                · skip
                                                                  exact absurd c_125 (by decide)
                                                                · skip
                                                                  refine lv_aload_n hx hb dX11_provedShare_10 rfl (lv_at hl 3 rfl) ?_
                                                                  refine va_get (D := D) (ci := 11) (v := .ref (h 1)) (C := RX11) (T := TX11) (N := 15) hx hb ht zinX11 hown hK hP 0 rfl rfl 0 (by decide) (ht _ zw_353) (fun _ h9 => h9) rfl dX11_provedShare_11 ?_
                                                                  refine va_get (D := D) (ci := 8) (v := .ref (h 4)) (C := RX8) (T := TX8) (N := 11) hx hb ht zinX8 hown hK hP 1 rfl rfl 3 (by decide) (ht _ zw_470) (fun _ h9 => h9) rfl dX11_provedShare_14 ?_
                                                                  refine lv_iload_n hx hb dX11_provedShare_17 rfl (lv_at hl 0 rfl) ?_
                                                                  refine va_aldq hx hb hK hP 2 0 rfl rfl (vp_in_iff.mpr (by decide)) dX11_provedShare_18 ?_
                                                                  refine W.eq (g2 := F0 m 19 ls (.null :: [])) rfl ?_
                                                                  refine lv_astore_nN (lv' := [(3, .null), (2, .int 31), (1, .int 0), (0, .ref (h 0))]) hx hb dX11_provedShare_19 rfl hl (by decide) rfl (fun ls hl => ?_)
                                                                  refine lv_iload_n hx hb dX11_provedShare_20 rfl (lv_at hl 2 rfl) ?_
                                                                  refine lv_aload_nN hx hb dX11_provedShare_21 rfl (lv_at hl 0 rfl) ?_
                                                                  refine lv_ifnullN (tgt := 36) hx hb dX11_provedShare_22 (by decide) ?_
                                                                  refine lv_iconst (v := 0) hx hb dX11_provedShare_36 (by decide) ?_
                                                                  refine lv_iadd hx hb dX11_provedShare_37 ?_
                                                                  refine lv_topi (fun x_127 e_127 => ?_)
                                                                  obtain rfl : x_127 = 0 := e_127.trans (by decide)
                                                                  refine lv_istore_n (lv' := [(1, .int 0), (3, .null), (2, .int 31), (0, .ref (h 0))]) hx hb dX11_provedShare_38 rfl hl (by decide) rfl (fun ls hl => ?_)
                                                                  refine lv_iinc (v := 32) (lv' := [(2, .int 32), (1, .int 0), (3, .null), (0, .ref (h 0))]) hx hb dX11_provedShare_39 hl (k := 2) rfl (by decide) (by decide) rfl (fun ls hl => ?_)
                                                                  refine lv_goto (tgt := 4) hx hb dX11_provedShare_42 (by decide) ?_
                                                                  refine lv_iload_n hx hb dX11_provedShare_4 rfl (lv_at hl 0 rfl) ?_
                                                                  refine lv_bipush (v := 100) hx hb dX11_provedShare_5 (by decide) ?_
                                                                  refine lv_icmp_ge (tgt := 45) hx hb dX11_provedShare_7 (by decide) (fun c_129 => ?_) (fun c_129 => ?_)
                                                                  · skip
                                                                    exact absurd c_129 (by decide)
                                                                  · skip
                                                                    refine lv_aload_n hx hb dX11_provedShare_10 rfl (lv_at hl 3 rfl) ?_
                                                                    refine va_get (D := D) (ci := 11) (v := .ref (h 1)) (C := RX11) (T := TX11) (N := 15) hx hb ht zinX11 hown hK hP 0 rfl rfl 0 (by decide) (ht _ zw_353) (fun _ h9 => h9) rfl dX11_provedShare_11 ?_
                                                                    refine va_get (D := D) (ci := 8) (v := .ref (h 4)) (C := RX8) (T := TX8) (N := 11) hx hb ht zinX8 hown hK hP 1 rfl rfl 3 (by decide) (ht _ zw_470) (fun _ h9 => h9) rfl dX11_provedShare_14 ?_
                                                                    refine lv_iload_n hx hb dX11_provedShare_17 rfl (lv_at hl 0 rfl) ?_
                                                                    refine va_aldq hx hb hK hP 2 0 rfl rfl (vp_in_iff.mpr (by decide)) dX11_provedShare_18 ?_
                                                                    refine W.eq (g2 := F0 m 19 ls (.null :: [])) rfl ?_
                                                                    refine lv_astore_nN (lv' := [(3, .null), (2, .int 32), (1, .int 0), (0, .ref (h 0))]) hx hb dX11_provedShare_19 rfl hl (by decide) rfl (fun ls hl => ?_)
                                                                    refine lv_iload_n hx hb dX11_provedShare_20 rfl (lv_at hl 2 rfl) ?_
                                                                    refine lv_aload_nN hx hb dX11_provedShare_21 rfl (lv_at hl 0 rfl) ?_
                                                                    refine lv_ifnullN (tgt := 36) hx hb dX11_provedShare_22 (by decide) ?_
                                                                    refine lv_iconst (v := 0) hx hb dX11_provedShare_36 (by decide) ?_
                                                                    refine lv_iadd hx hb dX11_provedShare_37 ?_
                                                                    refine lv_topi (fun x_131 e_131 => ?_)
                                                                    obtain rfl : x_131 = 0 := e_131.trans (by decide)
                                                                    refine lv_istore_n (lv' := [(1, .int 0), (3, .null), (2, .int 32), (0, .ref (h 0))]) hx hb dX11_provedShare_38 rfl hl (by decide) rfl (fun ls hl => ?_)
                                                                    refine lv_iinc (v := 33) (lv' := [(2, .int 33), (1, .int 0), (3, .null), (0, .ref (h 0))]) hx hb dX11_provedShare_39 hl (k := 2) rfl (by decide) (by decide) rfl (fun ls hl => ?_)
                                                                    refine lv_goto (tgt := 4) hx hb dX11_provedShare_42 (by decide) ?_
                                                                    refine lv_iload_n hx hb dX11_provedShare_4 rfl (lv_at hl 0 rfl) ?_
                                                                    refine lv_bipush (v := 100) hx hb dX11_provedShare_5 (by decide) ?_
                                                                    refine lv_icmp_ge (tgt := 45) hx hb dX11_provedShare_7 (by decide) (fun c_133 => ?_) (fun c_133 => ?_)
                                                                    · skip
                                                                      exact absurd c_133 (by decide)
                                                                    · skip
                                                                      refine lv_aload_n hx hb dX11_provedShare_10 rfl (lv_at hl 3 rfl) ?_
                                                                      refine va_get (D := D) (ci := 11) (v := .ref (h 1)) (C := RX11) (T := TX11) (N := 15) hx hb ht zinX11 hown hK hP 0 rfl rfl 0 (by decide) (ht _ zw_353) (fun _ h9 => h9) rfl dX11_provedShare_11 ?_
                                                                      refine va_get (D := D) (ci := 8) (v := .ref (h 4)) (C := RX8) (T := TX8) (N := 11) hx hb ht zinX8 hown hK hP 1 rfl rfl 3 (by decide) (ht _ zw_470) (fun _ h9 => h9) rfl dX11_provedShare_14 ?_
                                                                      refine lv_iload_n hx hb dX11_provedShare_17 rfl (lv_at hl 0 rfl) ?_
                                                                      refine va_aldq hx hb hK hP 2 0 rfl rfl (vp_in_iff.mpr (by decide)) dX11_provedShare_18 ?_
                                                                      refine W.eq (g2 := F0 m 19 ls (.null :: [])) rfl ?_
                                                                      refine lv_astore_nN (lv' := [(3, .null), (2, .int 33), (1, .int 0), (0, .ref (h 0))]) hx hb dX11_provedShare_19 rfl hl (by decide) rfl (fun ls hl => ?_)
                                                                      refine lv_iload_n hx hb dX11_provedShare_20 rfl (lv_at hl 2 rfl) ?_
                                                                      refine lv_aload_nN hx hb dX11_provedShare_21 rfl (lv_at hl 0 rfl) ?_
                                                                      refine lv_ifnullN (tgt := 36) hx hb dX11_provedShare_22 (by decide) ?_
                                                                      refine lv_iconst (v := 0) hx hb dX11_provedShare_36 (by decide) ?_
                                                                      refine lv_iadd hx hb dX11_provedShare_37 ?_
                                                                      refine lv_topi (fun x_135 e_135 => ?_)
                                                                      obtain rfl : x_135 = 0 := e_135.trans (by decide)
                                                                      refine lv_istore_n (lv' := [(1, .int 0), (3, .null), (2, .int 33), (0, .ref (h 0))]) hx hb dX11_provedShare_38 rfl hl (by decide) rfl (fun ls hl => ?_)
                                                                      refine lv_iinc (v := 34) (lv' := [(2, .int 34), (1, .int 0), (3, .null), (0, .ref (h 0))]) hx hb dX11_provedShare_39 hl (k := 2) rfl (by decide) (by decide) rfl (fun ls hl => ?_)
                                                                      refine lv_goto (tgt := 4) hx hb dX11_provedShare_42 (by decide) ?_
                                                                      refine lv_iload_n hx hb dX11_provedShare_4 rfl (lv_at hl 0 rfl) ?_
                                                                      refine lv_bipush (v := 100) hx hb dX11_provedShare_5 (by decide) ?_
                                                                      refine lv_icmp_ge (tgt := 45) hx hb dX11_provedShare_7 (by decide) (fun c_137 => ?_) (fun c_137 => ?_)
                                                                      · skip
                                                                        exact absurd c_137 (by decide)
                                                                      · skip
                                                                        refine lv_aload_n hx hb dX11_provedShare_10 rfl (lv_at hl 3 rfl) ?_
                                                                        refine va_get (D := D) (ci := 11) (v := .ref (h 1)) (C := RX11) (T := TX11) (N := 15) hx hb ht zinX11 hown hK hP 0 rfl rfl 0 (by decide) (ht _ zw_353) (fun _ h9 => h9) rfl dX11_provedShare_11 ?_
                                                                        refine va_get (D := D) (ci := 8) (v := .ref (h 4)) (C := RX8) (T := TX8) (N := 11) hx hb ht zinX8 hown hK hP 1 rfl rfl 3 (by decide) (ht _ zw_470) (fun _ h9 => h9) rfl dX11_provedShare_14 ?_
                                                                        refine lv_iload_n hx hb dX11_provedShare_17 rfl (lv_at hl 0 rfl) ?_
                                                                        refine va_aldq hx hb hK hP 2 0 rfl rfl (vp_in_iff.mpr (by decide)) dX11_provedShare_18 ?_
                                                                        refine W.eq (g2 := F0 m 19 ls (.null :: [])) rfl ?_
                                                                        refine lv_astore_nN (lv' := [(3, .null), (2, .int 34), (1, .int 0), (0, .ref (h 0))]) hx hb dX11_provedShare_19 rfl hl (by decide) rfl (fun ls hl => ?_)
                                                                        refine lv_iload_n hx hb dX11_provedShare_20 rfl (lv_at hl 2 rfl) ?_
                                                                        refine lv_aload_nN hx hb dX11_provedShare_21 rfl (lv_at hl 0 rfl) ?_
                                                                        refine lv_ifnullN (tgt := 36) hx hb dX11_provedShare_22 (by decide) ?_
                                                                        refine lv_iconst (v := 0) hx hb dX11_provedShare_36 (by decide) ?_
                                                                        refine lv_iadd hx hb dX11_provedShare_37 ?_
                                                                        refine lv_topi (fun x_139 e_139 => ?_)
                                                                        obtain rfl : x_139 = 0 := e_139.trans (by decide)
                                                                        refine lv_istore_n (lv' := [(1, .int 0), (3, .null), (2, .int 34), (0, .ref (h 0))]) hx hb dX11_provedShare_38 rfl hl (by decide) rfl (fun ls hl => ?_)
                                                                        refine lv_iinc (v := 35) (lv' := [(2, .int 35), (1, .int 0), (3, .null), (0, .ref (h 0))]) hx hb dX11_provedShare_39 hl (k := 2) rfl (by decide) (by decide) rfl (fun ls hl => ?_)
                                                                        refine lv_goto (tgt := 4) hx hb dX11_provedShare_42 (by decide) ?_
                                                                        refine lv_iload_n hx hb dX11_provedShare_4 rfl (lv_at hl 0 rfl) ?_
                                                                        refine lv_bipush (v := 100) hx hb dX11_provedShare_5 (by decide) ?_
                                                                        refine lv_icmp_ge (tgt := 45) hx hb dX11_provedShare_7 (by decide) (fun c_141 => ?_) (fun c_141 => ?_)
                                                                        · skip
                                                                          exact absurd c_141 (by decide)
                                                                        · skip
                                                                          refine lv_aload_n hx hb dX11_provedShare_10 rfl (lv_at hl 3 rfl) ?_
                                                                          refine va_get (D := D) (ci := 11) (v := .ref (h 1)) (C := RX11) (T := TX11) (N := 15) hx hb ht zinX11 hown hK hP 0 rfl rfl 0 (by decide) (ht _ zw_353) (fun _ h9 => h9) rfl dX11_provedShare_11 ?_
                                                                          refine va_get (D := D) (ci := 8) (v := .ref (h 4)) (C := RX8) (T := TX8) (N := 11) hx hb ht zinX8 hown hK hP 1 rfl rfl 3 (by decide) (ht _ zw_470) (fun _ h9 => h9) rfl dX11_provedShare_14 ?_
                                                                          refine lv_iload_n hx hb dX11_provedShare_17 rfl (lv_at hl 0 rfl) ?_
                                                                          refine va_aldq hx hb hK hP 2 0 rfl rfl (vp_in_iff.mpr (by decide)) dX11_provedShare_18 ?_
                                                                          refine W.eq (g2 := F0 m 19 ls (.null :: [])) rfl ?_
                                                                          refine lv_astore_nN (lv' := [(3, .null), (2, .int 35), (1, .int 0), (0, .ref (h 0))]) hx hb dX11_provedShare_19 rfl hl (by decide) rfl (fun ls hl => ?_)
                                                                          refine lv_iload_n hx hb dX11_provedShare_20 rfl (lv_at hl 2 rfl) ?_
                                                                          refine lv_aload_nN hx hb dX11_provedShare_21 rfl (lv_at hl 0 rfl) ?_
                                                                          refine lv_ifnullN (tgt := 36) hx hb dX11_provedShare_22 (by decide) ?_
                                                                          refine lv_iconst (v := 0) hx hb dX11_provedShare_36 (by decide) ?_
                                                                          refine lv_iadd hx hb dX11_provedShare_37 ?_
                                                                          refine lv_topi (fun x_143 e_143 => ?_)
                                                                          obtain rfl : x_143 = 0 := e_143.trans (by decide)
                                                                          refine lv_istore_n (lv' := [(1, .int 0), (3, .null), (2, .int 35), (0, .ref (h 0))]) hx hb dX11_provedShare_38 rfl hl (by decide) rfl (fun ls hl => ?_)
                                                                          refine lv_iinc (v := 36) (lv' := [(2, .int 36), (1, .int 0), (3, .null), (0, .ref (h 0))]) hx hb dX11_provedShare_39 hl (k := 2) rfl (by decide) (by decide) rfl (fun ls hl => ?_)
                                                                          refine lv_goto (tgt := 4) hx hb dX11_provedShare_42 (by decide) ?_
                                                                          refine lv_iload_n hx hb dX11_provedShare_4 rfl (lv_at hl 0 rfl) ?_
                                                                          refine lv_bipush (v := 100) hx hb dX11_provedShare_5 (by decide) ?_
                                                                          refine lv_icmp_ge (tgt := 45) hx hb dX11_provedShare_7 (by decide) (fun c_145 => ?_) (fun c_145 => ?_)
                                                                          · skip
                                                                            exact absurd c_145 (by decide)
                                                                          · skip
                                                                            refine lv_aload_n hx hb dX11_provedShare_10 rfl (lv_at hl 3 rfl) ?_
                                                                            refine va_get (D := D) (ci := 11) (v := .ref (h 1)) (C := RX11) (T := TX11) (N := 15) hx hb ht zinX11 hown hK hP 0 rfl rfl 0 (by decide) (ht _ zw_353) (fun _ h9 => h9) rfl dX11_provedShare_11 ?_
                                                                            refine va_get (D := D) (ci := 8) (v := .ref (h 4)) (C := RX8) (T := TX8) (N := 11) hx hb ht zinX8 hown hK hP 1 rfl rfl 3 (by decide) (ht _ zw_470) (fun _ h9 => h9) rfl dX11_provedShare_14 ?_
                                                                            refine lv_iload_n hx hb dX11_provedShare_17 rfl (lv_at hl 0 rfl) ?_
                                                                            refine va_aldq hx hb hK hP 2 0 rfl rfl (vp_in_iff.mpr (by decide)) dX11_provedShare_18 ?_
                                                                            refine W.eq (g2 := F0 m 19 ls (.null :: [])) rfl ?_
                                                                            refine lv_astore_nN (lv' := [(3, .null), (2, .int 36), (1, .int 0), (0, .ref (h 0))]) hx hb dX11_provedShare_19 rfl hl (by decide) rfl (fun ls hl => ?_)
                                                                            refine lv_iload_n hx hb dX11_provedShare_20 rfl (lv_at hl 2 rfl) ?_
                                                                            refine lv_aload_nN hx hb dX11_provedShare_21 rfl (lv_at hl 0 rfl) ?_
                                                                            refine lv_ifnullN (tgt := 36) hx hb dX11_provedShare_22 (by decide) ?_
                                                                            refine lv_iconst (v := 0) hx hb dX11_provedShare_36 (by decide) ?_
                                                                            refine lv_iadd hx hb dX11_provedShare_37 ?_
                                                                            refine lv_topi (fun x_147 e_147 => ?_)
                                                                            obtain rfl : x_147 = 0 := e_147.trans (by decide)
                                                                            refine lv_istore_n (lv' := [(1, .int 0), (3, .null), (2, .int 36), (0, .ref (h 0))]) hx hb dX11_provedShare_38 rfl hl (by decide) rfl (fun ls hl => ?_)
                                                                            refine lv_iinc (v := 37) (lv' := [(2, .int 37), (1, .int 0), (3, .null), (0, .ref (h 0))]) hx hb dX11_provedShare_39 hl (k := 2) rfl (by decide) (by decide) rfl (fun ls hl => ?_)
                                                                            refine lv_goto (tgt := 4) hx hb dX11_provedShare_42 (by decide) ?_
                                                                            refine lv_iload_n hx hb dX11_provedShare_4 rfl (lv_at hl 0 rfl) ?_
                                                                            refine lv_bipush (v := 100) hx hb dX11_provedShare_5 (by decide) ?_
                                                                            refine lv_icmp_ge (tgt := 45) hx hb dX11_provedShare_7 (by decide) (fun c_149 => ?_) (fun c_149 => ?_)
                                                                            · skip
                                                                              exact absurd c_149 (by decide)
                                                                            · skip
                                                                              refine lv_aload_n hx hb dX11_provedShare_10 rfl (lv_at hl 3 rfl) ?_
                                                                              refine va_get (D := D) (ci := 11) (v := .ref (h 1)) (C := RX11) (T := TX11) (N := 15) hx hb ht zinX11 hown hK hP 0 rfl rfl 0 (by decide) (ht _ zw_353) (fun _ h9 => h9) rfl dX11_provedShare_11 ?_
                                                                              refine va_get (D := D) (ci := 8) (v := .ref (h 4)) (C := RX8) (T := TX8) (N := 11) hx hb ht zinX8 hown hK hP 1 rfl rfl 3 (by decide) (ht _ zw_470) (fun _ h9 => h9) rfl dX11_provedShare_14 ?_
                                                                              refine lv_iload_n hx hb dX11_provedShare_17 rfl (lv_at hl 0 rfl) ?_
                                                                              refine va_aldq hx hb hK hP 2 0 rfl rfl (vp_in_iff.mpr (by decide)) dX11_provedShare_18 ?_
                                                                              refine W.eq (g2 := F0 m 19 ls (.null :: [])) rfl ?_
                                                                              refine lv_astore_nN (lv' := [(3, .null), (2, .int 37), (1, .int 0), (0, .ref (h 0))]) hx hb dX11_provedShare_19 rfl hl (by decide) rfl (fun ls hl => ?_)
                                                                              refine lv_iload_n hx hb dX11_provedShare_20 rfl (lv_at hl 2 rfl) ?_
                                                                              refine lv_aload_nN hx hb dX11_provedShare_21 rfl (lv_at hl 0 rfl) ?_
                                                                              refine lv_ifnullN (tgt := 36) hx hb dX11_provedShare_22 (by decide) ?_
                                                                              refine lv_iconst (v := 0) hx hb dX11_provedShare_36 (by decide) ?_
                                                                              refine lv_iadd hx hb dX11_provedShare_37 ?_
                                                                              refine lv_topi (fun x_151 e_151 => ?_)
                                                                              obtain rfl : x_151 = 0 := e_151.trans (by decide)
                                                                              refine lv_istore_n (lv' := [(1, .int 0), (3, .null), (2, .int 37), (0, .ref (h 0))]) hx hb dX11_provedShare_38 rfl hl (by decide) rfl (fun ls hl => ?_)
                                                                              refine lv_iinc (v := 38) (lv' := [(2, .int 38), (1, .int 0), (3, .null), (0, .ref (h 0))]) hx hb dX11_provedShare_39 hl (k := 2) rfl (by decide) (by decide) rfl (fun ls hl => ?_)
                                                                              refine lv_goto (tgt := 4) hx hb dX11_provedShare_42 (by decide) ?_
                                                                              refine lv_iload_n hx hb dX11_provedShare_4 rfl (lv_at hl 0 rfl) ?_
                                                                              refine lv_bipush (v := 100) hx hb dX11_provedShare_5 (by decide) ?_
                                                                              refine lv_icmp_ge (tgt := 45) hx hb dX11_provedShare_7 (by decide) (fun c_153 => ?_) (fun c_153 => ?_)
                                                                              · skip
                                                                                exact absurd c_153 (by decide)
                                                                              · skip
                                                                                refine lv_aload_n hx hb dX11_provedShare_10 rfl (lv_at hl 3 rfl) ?_
                                                                                refine va_get (D := D) (ci := 11) (v := .ref (h 1)) (C := RX11) (T := TX11) (N := 15) hx hb ht zinX11 hown hK hP 0 rfl rfl 0 (by decide) (ht _ zw_353) (fun _ h9 => h9) rfl dX11_provedShare_11 ?_
                                                                                refine va_get (D := D) (ci := 8) (v := .ref (h 4)) (C := RX8) (T := TX8) (N := 11) hx hb ht zinX8 hown hK hP 1 rfl rfl 3 (by decide) (ht _ zw_470) (fun _ h9 => h9) rfl dX11_provedShare_14 ?_
                                                                                refine lv_iload_n hx hb dX11_provedShare_17 rfl (lv_at hl 0 rfl) ?_
                                                                                refine va_aldq hx hb hK hP 2 0 rfl rfl (vp_in_iff.mpr (by decide)) dX11_provedShare_18 ?_
                                                                                refine W.eq (g2 := F0 m 19 ls (.null :: [])) rfl ?_
                                                                                refine lv_astore_nN (lv' := [(3, .null), (2, .int 38), (1, .int 0), (0, .ref (h 0))]) hx hb dX11_provedShare_19 rfl hl (by decide) rfl (fun ls hl => ?_)
                                                                                refine lv_iload_n hx hb dX11_provedShare_20 rfl (lv_at hl 2 rfl) ?_
                                                                                refine lv_aload_nN hx hb dX11_provedShare_21 rfl (lv_at hl 0 rfl) ?_
                                                                                refine lv_ifnullN (tgt := 36) hx hb dX11_provedShare_22 (by decide) ?_
                                                                                refine lv_iconst (v := 0) hx hb dX11_provedShare_36 (by decide) ?_
                                                                                refine lv_iadd hx hb dX11_provedShare_37 ?_
                                                                                refine lv_topi (fun x_155 e_155 => ?_)
                                                                                obtain rfl : x_155 = 0 := e_155.trans (by decide)
                                                                                refine lv_istore_n (lv' := [(1, .int 0), (3, .null), (2, .int 38), (0, .ref (h 0))]) hx hb dX11_provedShare_38 rfl hl (by decide) rfl (fun ls hl => ?_)
                                                                                refine lv_iinc (v := 39) (lv' := [(2, .int 39), (1, .int 0), (3, .null), (0, .ref (h 0))]) hx hb dX11_provedShare_39 hl (k := 2) rfl (by decide) (by decide) rfl (fun ls hl => ?_)
                                                                                refine lv_goto (tgt := 4) hx hb dX11_provedShare_42 (by decide) ?_
                                                                                refine lv_iload_n hx hb dX11_provedShare_4 rfl (lv_at hl 0 rfl) ?_
                                                                                refine lv_bipush (v := 100) hx hb dX11_provedShare_5 (by decide) ?_
                                                                                refine lv_icmp_ge (tgt := 45) hx hb dX11_provedShare_7 (by decide) (fun c_157 => ?_) (fun c_157 => ?_)
                                                                                · skip
                                                                                  exact absurd c_157 (by decide)
                                                                                · skip
                                                                                  refine lv_aload_n hx hb dX11_provedShare_10 rfl (lv_at hl 3 rfl) ?_
                                                                                  refine va_get (D := D) (ci := 11) (v := .ref (h 1)) (C := RX11) (T := TX11) (N := 15) hx hb ht zinX11 hown hK hP 0 rfl rfl 0 (by decide) (ht _ zw_353) (fun _ h9 => h9) rfl dX11_provedShare_11 ?_
                                                                                  refine va_get (D := D) (ci := 8) (v := .ref (h 4)) (C := RX8) (T := TX8) (N := 11) hx hb ht zinX8 hown hK hP 1 rfl rfl 3 (by decide) (ht _ zw_470) (fun _ h9 => h9) rfl dX11_provedShare_14 ?_
                                                                                  refine lv_iload_n hx hb dX11_provedShare_17 rfl (lv_at hl 0 rfl) ?_
                                                                                  refine va_aldq hx hb hK hP 2 0 rfl rfl (vp_in_iff.mpr (by decide)) dX11_provedShare_18 ?_
                                                                                  refine W.eq (g2 := F0 m 19 ls (.null :: [])) rfl ?_
                                                                                  refine lv_astore_nN (lv' := [(3, .null), (2, .int 39), (1, .int 0), (0, .ref (h 0))]) hx hb dX11_provedShare_19 rfl hl (by decide) rfl (fun ls hl => ?_)
                                                                                  refine lv_iload_n hx hb dX11_provedShare_20 rfl (lv_at hl 2 rfl) ?_
                                                                                  refine lv_aload_nN hx hb dX11_provedShare_21 rfl (lv_at hl 0 rfl) ?_
                                                                                  refine lv_ifnullN (tgt := 36) hx hb dX11_provedShare_22 (by decide) ?_
                                                                                  refine lv_iconst (v := 0) hx hb dX11_provedShare_36 (by decide) ?_
                                                                                  refine lv_iadd hx hb dX11_provedShare_37 ?_
                                                                                  refine lv_topi (fun x_159 e_159 => ?_)
                                                                                  obtain rfl : x_159 = 0 := e_159.trans (by decide)
                                                                                  refine lv_istore_n (lv' := [(1, .int 0), (3, .null), (2, .int 39), (0, .ref (h 0))]) hx hb dX11_provedShare_38 rfl hl (by decide) rfl (fun ls hl => ?_)
                                                                                  refine lv_iinc (v := 40) (lv' := [(2, .int 40), (1, .int 0), (3, .null), (0, .ref (h 0))]) hx hb dX11_provedShare_39 hl (k := 2) rfl (by decide) (by decide) rfl (fun ls hl => ?_)
                                                                                  refine lv_goto (tgt := 4) hx hb dX11_provedShare_42 (by decide) ?_
                                                                                  refine lv_iload_n hx hb dX11_provedShare_4 rfl (lv_at hl 0 rfl) ?_
                                                                                  refine lv_bipush (v := 100) hx hb dX11_provedShare_5 (by decide) ?_
                                                                                  refine lv_icmp_ge (tgt := 45) hx hb dX11_provedShare_7 (by decide) (fun c_161 => ?_) (fun c_161 => ?_)
                                                                                  · skip
                                                                                    exact absurd c_161 (by decide)
                                                                                  · skip
                                                                                    refine lv_aload_n hx hb dX11_provedShare_10 rfl (lv_at hl 3 rfl) ?_
                                                                                    refine va_get (D := D) (ci := 11) (v := .ref (h 1)) (C := RX11) (T := TX11) (N := 15) hx hb ht zinX11 hown hK hP 0 rfl rfl 0 (by decide) (ht _ zw_353) (fun _ h9 => h9) rfl dX11_provedShare_11 ?_
                                                                                    refine va_get (D := D) (ci := 8) (v := .ref (h 4)) (C := RX8) (T := TX8) (N := 11) hx hb ht zinX8 hown hK hP 1 rfl rfl 3 (by decide) (ht _ zw_470) (fun _ h9 => h9) rfl dX11_provedShare_14 ?_
                                                                                    refine lv_iload_n hx hb dX11_provedShare_17 rfl (lv_at hl 0 rfl) ?_
                                                                                    refine va_aldq hx hb hK hP 2 0 rfl rfl (vp_in_iff.mpr (by decide)) dX11_provedShare_18 ?_
                                                                                    refine W.eq (g2 := F0 m 19 ls (.null :: [])) rfl ?_
                                                                                    refine lv_astore_nN (lv' := [(3, .null), (2, .int 40), (1, .int 0), (0, .ref (h 0))]) hx hb dX11_provedShare_19 rfl hl (by decide) rfl (fun ls hl => ?_)
                                                                                    refine lv_iload_n hx hb dX11_provedShare_20 rfl (lv_at hl 2 rfl) ?_
                                                                                    refine lv_aload_nN hx hb dX11_provedShare_21 rfl (lv_at hl 0 rfl) ?_
                                                                                    refine lv_ifnullN (tgt := 36) hx hb dX11_provedShare_22 (by decide) ?_
                                                                                    refine lv_iconst (v := 0) hx hb dX11_provedShare_36 (by decide) ?_
                                                                                    refine lv_iadd hx hb dX11_provedShare_37 ?_
                                                                                    refine lv_topi (fun x_163 e_163 => ?_)
                                                                                    obtain rfl : x_163 = 0 := e_163.trans (by decide)
                                                                                    refine lv_istore_n (lv' := [(1, .int 0), (3, .null), (2, .int 40), (0, .ref (h 0))]) hx hb dX11_provedShare_38 rfl hl (by decide) rfl (fun ls hl => ?_)
                                                                                    refine lv_iinc (v := 41) (lv' := [(2, .int 41), (1, .int 0), (3, .null), (0, .ref (h 0))]) hx hb dX11_provedShare_39 hl (k := 2) rfl (by decide) (by decide) rfl (fun ls hl => ?_)
                                                                                    refine lv_goto (tgt := 4) hx hb dX11_provedShare_42 (by decide) ?_
                                                                                    refine lv_iload_n hx hb dX11_provedShare_4 rfl (lv_at hl 0 rfl) ?_
                                                                                    refine lv_bipush (v := 100) hx hb dX11_provedShare_5 (by decide) ?_
                                                                                    refine lv_icmp_ge (tgt := 45) hx hb dX11_provedShare_7 (by decide) (fun c_165 => ?_) (fun c_165 => ?_)
                                                                                    · skip
                                                                                      exact absurd c_165 (by decide)
                                                                                    · skip
                                                                                      refine lv_aload_n hx hb dX11_provedShare_10 rfl (lv_at hl 3 rfl) ?_
                                                                                      refine va_get (D := D) (ci := 11) (v := .ref (h 1)) (C := RX11) (T := TX11) (N := 15) hx hb ht zinX11 hown hK hP 0 rfl rfl 0 (by decide) (ht _ zw_353) (fun _ h9 => h9) rfl dX11_provedShare_11 ?_
                                                                                      refine va_get (D := D) (ci := 8) (v := .ref (h 4)) (C := RX8) (T := TX8) (N := 11) hx hb ht zinX8 hown hK hP 1 rfl rfl 3 (by decide) (ht _ zw_470) (fun _ h9 => h9) rfl dX11_provedShare_14 ?_
                                                                                      refine lv_iload_n hx hb dX11_provedShare_17 rfl (lv_at hl 0 rfl) ?_
                                                                                      refine va_aldq hx hb hK hP 2 0 rfl rfl (vp_in_iff.mpr (by decide)) dX11_provedShare_18 ?_
                                                                                      refine W.eq (g2 := F0 m 19 ls (.null :: [])) rfl ?_
                                                                                      refine lv_astore_nN (lv' := [(3, .null), (2, .int 41), (1, .int 0), (0, .ref (h 0))]) hx hb dX11_provedShare_19 rfl hl (by decide) rfl (fun ls hl => ?_)
                                                                                      refine lv_iload_n hx hb dX11_provedShare_20 rfl (lv_at hl 2 rfl) ?_
                                                                                      refine lv_aload_nN hx hb dX11_provedShare_21 rfl (lv_at hl 0 rfl) ?_
                                                                                      refine lv_ifnullN (tgt := 36) hx hb dX11_provedShare_22 (by decide) ?_
                                                                                      refine lv_iconst (v := 0) hx hb dX11_provedShare_36 (by decide) ?_
                                                                                      refine lv_iadd hx hb dX11_provedShare_37 ?_
                                                                                      refine lv_topi (fun x_167 e_167 => ?_)
                                                                                      obtain rfl : x_167 = 0 := e_167.trans (by decide)
                                                                                      refine lv_istore_n (lv' := [(1, .int 0), (3, .null), (2, .int 41), (0, .ref (h 0))]) hx hb dX11_provedShare_38 rfl hl (by decide) rfl (fun ls hl => ?_)
                                                                                      refine lv_iinc (v := 42) (lv' := [(2, .int 42), (1, .int 0), (3, .null), (0, .ref (h 0))]) hx hb dX11_provedShare_39 hl (k := 2) rfl (by decide) (by decide) rfl (fun ls hl => ?_)
                                                                                      refine lv_goto (tgt := 4) hx hb dX11_provedShare_42 (by decide) ?_
                                                                                      refine lv_iload_n hx hb dX11_provedShare_4 rfl (lv_at hl 0 rfl) ?_
                                                                                      refine lv_bipush (v := 100) hx hb dX11_provedShare_5 (by decide) ?_
                                                                                      refine lv_icmp_ge (tgt := 45) hx hb dX11_provedShare_7 (by decide) (fun c_169 => ?_) (fun c_169 => ?_)
                                                                                      · skip
                                                                                        exact absurd c_169 (by decide)
                                                                                      · skip
                                                                                        refine lv_aload_n hx hb dX11_provedShare_10 rfl (lv_at hl 3 rfl) ?_
                                                                                        refine va_get (D := D) (ci := 11) (v := .ref (h 1)) (C := RX11) (T := TX11) (N := 15) hx hb ht zinX11 hown hK hP 0 rfl rfl 0 (by decide) (ht _ zw_353) (fun _ h9 => h9) rfl dX11_provedShare_11 ?_
                                                                                        refine va_get (D := D) (ci := 8) (v := .ref (h 4)) (C := RX8) (T := TX8) (N := 11) hx hb ht zinX8 hown hK hP 1 rfl rfl 3 (by decide) (ht _ zw_470) (fun _ h9 => h9) rfl dX11_provedShare_14 ?_
                                                                                        refine lv_iload_n hx hb dX11_provedShare_17 rfl (lv_at hl 0 rfl) ?_
                                                                                        refine va_aldq hx hb hK hP 2 0 rfl rfl (vp_in_iff.mpr (by decide)) dX11_provedShare_18 ?_
                                                                                        refine W.eq (g2 := F0 m 19 ls (.null :: [])) rfl ?_
                                                                                        refine lv_astore_nN (lv' := [(3, .null), (2, .int 42), (1, .int 0), (0, .ref (h 0))]) hx hb dX11_provedShare_19 rfl hl (by decide) rfl (fun ls hl => ?_)
                                                                                        refine lv_iload_n hx hb dX11_provedShare_20 rfl (lv_at hl 2 rfl) ?_
                                                                                        refine lv_aload_nN hx hb dX11_provedShare_21 rfl (lv_at hl 0 rfl) ?_
                                                                                        refine lv_ifnullN (tgt := 36) hx hb dX11_provedShare_22 (by decide) ?_
                                                                                        refine lv_iconst (v := 0) hx hb dX11_provedShare_36 (by decide) ?_
                                                                                        refine lv_iadd hx hb dX11_provedShare_37 ?_
                                                                                        refine lv_topi (fun x_171 e_171 => ?_)
                                                                                        obtain rfl : x_171 = 0 := e_171.trans (by decide)
                                                                                        refine lv_istore_n (lv' := [(1, .int 0), (3, .null), (2, .int 42), (0, .ref (h 0))]) hx hb dX11_provedShare_38 rfl hl (by decide) rfl (fun ls hl => ?_)
                                                                                        refine lv_iinc (v := 43) (lv' := [(2, .int 43), (1, .int 0), (3, .null), (0, .ref (h 0))]) hx hb dX11_provedShare_39 hl (k := 2) rfl (by decide) (by decide) rfl (fun ls hl => ?_)
                                                                                        refine lv_goto (tgt := 4) hx hb dX11_provedShare_42 (by decide) ?_
                                                                                        refine lv_iload_n hx hb dX11_provedShare_4 rfl (lv_at hl 0 rfl) ?_
                                                                                        refine lv_bipush (v := 100) hx hb dX11_provedShare_5 (by decide) ?_
                                                                                        refine lv_icmp_ge (tgt := 45) hx hb dX11_provedShare_7 (by decide) (fun c_173 => ?_) (fun c_173 => ?_)
                                                                                        · skip
                                                                                          exact absurd c_173 (by decide)
                                                                                        · skip
                                                                                          refine lv_aload_n hx hb dX11_provedShare_10 rfl (lv_at hl 3 rfl) ?_
                                                                                          refine va_get (D := D) (ci := 11) (v := .ref (h 1)) (C := RX11) (T := TX11) (N := 15) hx hb ht zinX11 hown hK hP 0 rfl rfl 0 (by decide) (ht _ zw_353) (fun _ h9 => h9) rfl dX11_provedShare_11 ?_
                                                                                          refine va_get (D := D) (ci := 8) (v := .ref (h 4)) (C := RX8) (T := TX8) (N := 11) hx hb ht zinX8 hown hK hP 1 rfl rfl 3 (by decide) (ht _ zw_470) (fun _ h9 => h9) rfl dX11_provedShare_14 ?_
                                                                                          refine lv_iload_n hx hb dX11_provedShare_17 rfl (lv_at hl 0 rfl) ?_
                                                                                          refine va_aldq hx hb hK hP 2 0 rfl rfl (vp_in_iff.mpr (by decide)) dX11_provedShare_18 ?_
                                                                                          refine W.eq (g2 := F0 m 19 ls (.null :: [])) rfl ?_
                                                                                          refine lv_astore_nN (lv' := [(3, .null), (2, .int 43), (1, .int 0), (0, .ref (h 0))]) hx hb dX11_provedShare_19 rfl hl (by decide) rfl (fun ls hl => ?_)
                                                                                          refine lv_iload_n hx hb dX11_provedShare_20 rfl (lv_at hl 2 rfl) ?_
                                                                                          refine lv_aload_nN hx hb dX11_provedShare_21 rfl (lv_at hl 0 rfl) ?_
                                                                                          refine lv_ifnullN (tgt := 36) hx hb dX11_provedShare_22 (by decide) ?_
                                                                                          refine lv_iconst (v := 0) hx hb dX11_provedShare_36 (by decide) ?_
                                                                                          refine lv_iadd hx hb dX11_provedShare_37 ?_
                                                                                          refine lv_topi (fun x_175 e_175 => ?_)
                                                                                          obtain rfl : x_175 = 0 := e_175.trans (by decide)
                                                                                          refine lv_istore_n (lv' := [(1, .int 0), (3, .null), (2, .int 43), (0, .ref (h 0))]) hx hb dX11_provedShare_38 rfl hl (by decide) rfl (fun ls hl => ?_)
                                                                                          refine lv_iinc (v := 44) (lv' := [(2, .int 44), (1, .int 0), (3, .null), (0, .ref (h 0))]) hx hb dX11_provedShare_39 hl (k := 2) rfl (by decide) (by decide) rfl (fun ls hl => ?_)
                                                                                          refine lv_goto (tgt := 4) hx hb dX11_provedShare_42 (by decide) ?_
                                                                                          refine lv_iload_n hx hb dX11_provedShare_4 rfl (lv_at hl 0 rfl) ?_
                                                                                          refine lv_bipush (v := 100) hx hb dX11_provedShare_5 (by decide) ?_
                                                                                          refine lv_icmp_ge (tgt := 45) hx hb dX11_provedShare_7 (by decide) (fun c_177 => ?_) (fun c_177 => ?_)
                                                                                          · skip
                                                                                            exact absurd c_177 (by decide)
                                                                                          · skip
                                                                                            refine lv_aload_n hx hb dX11_provedShare_10 rfl (lv_at hl 3 rfl) ?_
                                                                                            refine va_get (D := D) (ci := 11) (v := .ref (h 1)) (C := RX11) (T := TX11) (N := 15) hx hb ht zinX11 hown hK hP 0 rfl rfl 0 (by decide) (ht _ zw_353) (fun _ h9 => h9) rfl dX11_provedShare_11 ?_
                                                                                            refine va_get (D := D) (ci := 8) (v := .ref (h 4)) (C := RX8) (T := TX8) (N := 11) hx hb ht zinX8 hown hK hP 1 rfl rfl 3 (by decide) (ht _ zw_470) (fun _ h9 => h9) rfl dX11_provedShare_14 ?_
                                                                                            refine lv_iload_n hx hb dX11_provedShare_17 rfl (lv_at hl 0 rfl) ?_
                                                                                            refine va_aldq hx hb hK hP 2 0 rfl rfl (vp_in_iff.mpr (by decide)) dX11_provedShare_18 ?_
                                                                                            refine W.eq (g2 := F0 m 19 ls (.null :: [])) rfl ?_
                                                                                            refine lv_astore_nN (lv' := [(3, .null), (2, .int 44), (1, .int 0), (0, .ref (h 0))]) hx hb dX11_provedShare_19 rfl hl (by decide) rfl (fun ls hl => ?_)
                                                                                            refine lv_iload_n hx hb dX11_provedShare_20 rfl (lv_at hl 2 rfl) ?_
                                                                                            refine lv_aload_nN hx hb dX11_provedShare_21 rfl (lv_at hl 0 rfl) ?_
                                                                                            refine lv_ifnullN (tgt := 36) hx hb dX11_provedShare_22 (by decide) ?_
                                                                                            refine lv_iconst (v := 0) hx hb dX11_provedShare_36 (by decide) ?_
                                                                                            refine lv_iadd hx hb dX11_provedShare_37 ?_
                                                                                            refine lv_topi (fun x_179 e_179 => ?_)
                                                                                            obtain rfl : x_179 = 0 := e_179.trans (by decide)
                                                                                            refine lv_istore_n (lv' := [(1, .int 0), (3, .null), (2, .int 44), (0, .ref (h 0))]) hx hb dX11_provedShare_38 rfl hl (by decide) rfl (fun ls hl => ?_)
                                                                                            refine lv_iinc (v := 45) (lv' := [(2, .int 45), (1, .int 0), (3, .null), (0, .ref (h 0))]) hx hb dX11_provedShare_39 hl (k := 2) rfl (by decide) (by decide) rfl (fun ls hl => ?_)
                                                                                            refine lv_goto (tgt := 4) hx hb dX11_provedShare_42 (by decide) ?_
                                                                                            refine lv_iload_n hx hb dX11_provedShare_4 rfl (lv_at hl 0 rfl) ?_
                                                                                            refine lv_bipush (v := 100) hx hb dX11_provedShare_5 (by decide) ?_
                                                                                            refine lv_icmp_ge (tgt := 45) hx hb dX11_provedShare_7 (by decide) (fun c_181 => ?_) (fun c_181 => ?_)
                                                                                            · skip
                                                                                              exact absurd c_181 (by decide)
                                                                                            · skip
                                                                                              refine lv_aload_n hx hb dX11_provedShare_10 rfl (lv_at hl 3 rfl) ?_
                                                                                              refine va_get (D := D) (ci := 11) (v := .ref (h 1)) (C := RX11) (T := TX11) (N := 15) hx hb ht zinX11 hown hK hP 0 rfl rfl 0 (by decide) (ht _ zw_353) (fun _ h9 => h9) rfl dX11_provedShare_11 ?_
                                                                                              refine va_get (D := D) (ci := 8) (v := .ref (h 4)) (C := RX8) (T := TX8) (N := 11) hx hb ht zinX8 hown hK hP 1 rfl rfl 3 (by decide) (ht _ zw_470) (fun _ h9 => h9) rfl dX11_provedShare_14 ?_
                                                                                              refine lv_iload_n hx hb dX11_provedShare_17 rfl (lv_at hl 0 rfl) ?_
                                                                                              refine va_aldq hx hb hK hP 2 0 rfl rfl (vp_in_iff.mpr (by decide)) dX11_provedShare_18 ?_
                                                                                              refine W.eq (g2 := F0 m 19 ls (.null :: [])) rfl ?_
                                                                                              refine lv_astore_nN (lv' := [(3, .null), (2, .int 45), (1, .int 0), (0, .ref (h 0))]) hx hb dX11_provedShare_19 rfl hl (by decide) rfl (fun ls hl => ?_)
                                                                                              refine lv_iload_n hx hb dX11_provedShare_20 rfl (lv_at hl 2 rfl) ?_
                                                                                              refine lv_aload_nN hx hb dX11_provedShare_21 rfl (lv_at hl 0 rfl) ?_
                                                                                              refine lv_ifnullN (tgt := 36) hx hb dX11_provedShare_22 (by decide) ?_
                                                                                              refine lv_iconst (v := 0) hx hb dX11_provedShare_36 (by decide) ?_
                                                                                              refine lv_iadd hx hb dX11_provedShare_37 ?_
                                                                                              refine lv_topi (fun x_183 e_183 => ?_)
                                                                                              obtain rfl : x_183 = 0 := e_183.trans (by decide)
                                                                                              refine lv_istore_n (lv' := [(1, .int 0), (3, .null), (2, .int 45), (0, .ref (h 0))]) hx hb dX11_provedShare_38 rfl hl (by decide) rfl (fun ls hl => ?_)
                                                                                              refine lv_iinc (v := 46) (lv' := [(2, .int 46), (1, .int 0), (3, .null), (0, .ref (h 0))]) hx hb dX11_provedShare_39 hl (k := 2) rfl (by decide) (by decide) rfl (fun ls hl => ?_)
                                                                                              refine lv_goto (tgt := 4) hx hb dX11_provedShare_42 (by decide) ?_
                                                                                              refine lv_iload_n hx hb dX11_provedShare_4 rfl (lv_at hl 0 rfl) ?_
                                                                                              refine lv_bipush (v := 100) hx hb dX11_provedShare_5 (by decide) ?_
                                                                                              refine lv_icmp_ge (tgt := 45) hx hb dX11_provedShare_7 (by decide) (fun c_185 => ?_) (fun c_185 => ?_)
                                                                                              · skip
                                                                                                exact absurd c_185 (by decide)
                                                                                              · skip
                                                                                                refine lv_aload_n hx hb dX11_provedShare_10 rfl (lv_at hl 3 rfl) ?_
                                                                                                refine va_get (D := D) (ci := 11) (v := .ref (h 1)) (C := RX11) (T := TX11) (N := 15) hx hb ht zinX11 hown hK hP 0 rfl rfl 0 (by decide) (ht _ zw_353) (fun _ h9 => h9) rfl dX11_provedShare_11 ?_
                                                                                                refine va_get (D := D) (ci := 8) (v := .ref (h 4)) (C := RX8) (T := TX8) (N := 11) hx hb ht zinX8 hown hK hP 1 rfl rfl 3 (by decide) (ht _ zw_470) (fun _ h9 => h9) rfl dX11_provedShare_14 ?_
                                                                                                refine lv_iload_n hx hb dX11_provedShare_17 rfl (lv_at hl 0 rfl) ?_
                                                                                                refine va_aldq hx hb hK hP 2 0 rfl rfl (vp_in_iff.mpr (by decide)) dX11_provedShare_18 ?_
                                                                                                refine W.eq (g2 := F0 m 19 ls (.null :: [])) rfl ?_
                                                                                                refine lv_astore_nN (lv' := [(3, .null), (2, .int 46), (1, .int 0), (0, .ref (h 0))]) hx hb dX11_provedShare_19 rfl hl (by decide) rfl (fun ls hl => ?_)
                                                                                                refine lv_iload_n hx hb dX11_provedShare_20 rfl (lv_at hl 2 rfl) ?_
                                                                                                refine lv_aload_nN hx hb dX11_provedShare_21 rfl (lv_at hl 0 rfl) ?_
                                                                                                refine lv_ifnullN (tgt := 36) hx hb dX11_provedShare_22 (by decide) ?_
                                                                                                refine lv_iconst (v := 0) hx hb dX11_provedShare_36 (by decide) ?_
                                                                                                refine lv_iadd hx hb dX11_provedShare_37 ?_
                                                                                                refine lv_topi (fun x_187 e_187 => ?_)
                                                                                                obtain rfl : x_187 = 0 := e_187.trans (by decide)
                                                                                                refine lv_istore_n (lv' := [(1, .int 0), (3, .null), (2, .int 46), (0, .ref (h 0))]) hx hb dX11_provedShare_38 rfl hl (by decide) rfl (fun ls hl => ?_)
                                                                                                refine lv_iinc (v := 47) (lv' := [(2, .int 47), (1, .int 0), (3, .null), (0, .ref (h 0))]) hx hb dX11_provedShare_39 hl (k := 2) rfl (by decide) (by decide) rfl (fun ls hl => ?_)
                                                                                                refine lv_goto (tgt := 4) hx hb dX11_provedShare_42 (by decide) ?_
                                                                                                refine lv_iload_n hx hb dX11_provedShare_4 rfl (lv_at hl 0 rfl) ?_
                                                                                                refine lv_bipush (v := 100) hx hb dX11_provedShare_5 (by decide) ?_
                                                                                                refine lv_icmp_ge (tgt := 45) hx hb dX11_provedShare_7 (by decide) (fun c_189 => ?_) (fun c_189 => ?_)
                                                                                                · skip
                                                                                                  exact absurd c_189 (by decide)
                                                                                                · skip
                                                                                                  refine lv_aload_n hx hb dX11_provedShare_10 rfl (lv_at hl 3 rfl) ?_
                                                                                                  refine va_get (D := D) (ci := 11) (v := .ref (h 1)) (C := RX11) (T := TX11) (N := 15) hx hb ht zinX11 hown hK hP 0 rfl rfl 0 (by decide) (ht _ zw_353) (fun _ h9 => h9) rfl dX11_provedShare_11 ?_
                                                                                                  refine va_get (D := D) (ci := 8) (v := .ref (h 4)) (C := RX8) (T := TX8) (N := 11) hx hb ht zinX8 hown hK hP 1 rfl rfl 3 (by decide) (ht _ zw_470) (fun _ h9 => h9) rfl dX11_provedShare_14 ?_
                                                                                                  refine lv_iload_n hx hb dX11_provedShare_17 rfl (lv_at hl 0 rfl) ?_
                                                                                                  refine va_aldq hx hb hK hP 2 0 rfl rfl (vp_in_iff.mpr (by decide)) dX11_provedShare_18 ?_
                                                                                                  refine W.eq (g2 := F0 m 19 ls (.null :: [])) rfl ?_
                                                                                                  refine lv_astore_nN (lv' := [(3, .null), (2, .int 47), (1, .int 0), (0, .ref (h 0))]) hx hb dX11_provedShare_19 rfl hl (by decide) rfl (fun ls hl => ?_)
                                                                                                  refine lv_iload_n hx hb dX11_provedShare_20 rfl (lv_at hl 2 rfl) ?_
                                                                                                  refine lv_aload_nN hx hb dX11_provedShare_21 rfl (lv_at hl 0 rfl) ?_
                                                                                                  refine lv_ifnullN (tgt := 36) hx hb dX11_provedShare_22 (by decide) ?_
                                                                                                  refine lv_iconst (v := 0) hx hb dX11_provedShare_36 (by decide) ?_
                                                                                                  refine lv_iadd hx hb dX11_provedShare_37 ?_
                                                                                                  refine lv_topi (fun x_191 e_191 => ?_)
                                                                                                  obtain rfl : x_191 = 0 := e_191.trans (by decide)
                                                                                                  refine lv_istore_n (lv' := [(1, .int 0), (3, .null), (2, .int 47), (0, .ref (h 0))]) hx hb dX11_provedShare_38 rfl hl (by decide) rfl (fun ls hl => ?_)
                                                                                                  refine lv_iinc (v := 48) (lv' := [(2, .int 48), (1, .int 0), (3, .null), (0, .ref (h 0))]) hx hb dX11_provedShare_39 hl (k := 2) rfl (by decide) (by decide) rfl (fun ls hl => ?_)
                                                                                                  refine lv_goto (tgt := 4) hx hb dX11_provedShare_42 (by decide) ?_
                                                                                                  refine lv_iload_n hx hb dX11_provedShare_4 rfl (lv_at hl 0 rfl) ?_
                                                                                                  refine lv_bipush (v := 100) hx hb dX11_provedShare_5 (by decide) ?_
                                                                                                  refine lv_icmp_ge (tgt := 45) hx hb dX11_provedShare_7 (by decide) (fun c_193 => ?_) (fun c_193 => ?_)
                                                                                                  · skip
                                                                                                    exact absurd c_193 (by decide)
                                                                                                  · skip
                                                                                                    refine lv_aload_n hx hb dX11_provedShare_10 rfl (lv_at hl 3 rfl) ?_
                                                                                                    refine va_get (D := D) (ci := 11) (v := .ref (h 1)) (C := RX11) (T := TX11) (N := 15) hx hb ht zinX11 hown hK hP 0 rfl rfl 0 (by decide) (ht _ zw_353) (fun _ h9 => h9) rfl dX11_provedShare_11 ?_
                                                                                                    refine va_get (D := D) (ci := 8) (v := .ref (h 4)) (C := RX8) (T := TX8) (N := 11) hx hb ht zinX8 hown hK hP 1 rfl rfl 3 (by decide) (ht _ zw_470) (fun _ h9 => h9) rfl dX11_provedShare_14 ?_
                                                                                                    refine lv_iload_n hx hb dX11_provedShare_17 rfl (lv_at hl 0 rfl) ?_
                                                                                                    refine va_aldq hx hb hK hP 2 0 rfl rfl (vp_in_iff.mpr (by decide)) dX11_provedShare_18 ?_
                                                                                                    refine W.eq (g2 := F0 m 19 ls (.null :: [])) rfl ?_
                                                                                                    refine lv_astore_nN (lv' := [(3, .null), (2, .int 48), (1, .int 0), (0, .ref (h 0))]) hx hb dX11_provedShare_19 rfl hl (by decide) rfl (fun ls hl => ?_)
                                                                                                    refine lv_iload_n hx hb dX11_provedShare_20 rfl (lv_at hl 2 rfl) ?_
                                                                                                    refine lv_aload_nN hx hb dX11_provedShare_21 rfl (lv_at hl 0 rfl) ?_
                                                                                                    refine lv_ifnullN (tgt := 36) hx hb dX11_provedShare_22 (by decide) ?_
                                                                                                    refine lv_iconst (v := 0) hx hb dX11_provedShare_36 (by decide) ?_
                                                                                                    refine lv_iadd hx hb dX11_provedShare_37 ?_
                                                                                                    refine lv_topi (fun x_195 e_195 => ?_)
                                                                                                    obtain rfl : x_195 = 0 := e_195.trans (by decide)
                                                                                                    refine lv_istore_n (lv' := [(1, .int 0), (3, .null), (2, .int 48), (0, .ref (h 0))]) hx hb dX11_provedShare_38 rfl hl (by decide) rfl (fun ls hl => ?_)
                                                                                                    refine lv_iinc (v := 49) (lv' := [(2, .int 49), (1, .int 0), (3, .null), (0, .ref (h 0))]) hx hb dX11_provedShare_39 hl (k := 2) rfl (by decide) (by decide) rfl (fun ls hl => ?_)
                                                                                                    refine lv_goto (tgt := 4) hx hb dX11_provedShare_42 (by decide) ?_
                                                                                                    refine lv_iload_n hx hb dX11_provedShare_4 rfl (lv_at hl 0 rfl) ?_
                                                                                                    refine lv_bipush (v := 100) hx hb dX11_provedShare_5 (by decide) ?_
                                                                                                    refine lv_icmp_ge (tgt := 45) hx hb dX11_provedShare_7 (by decide) (fun c_197 => ?_) (fun c_197 => ?_)
                                                                                                    · skip
                                                                                                      exact absurd c_197 (by decide)
                                                                                                    · skip
                                                                                                      refine lv_aload_n hx hb dX11_provedShare_10 rfl (lv_at hl 3 rfl) ?_
                                                                                                      refine va_get (D := D) (ci := 11) (v := .ref (h 1)) (C := RX11) (T := TX11) (N := 15) hx hb ht zinX11 hown hK hP 0 rfl rfl 0 (by decide) (ht _ zw_353) (fun _ h9 => h9) rfl dX11_provedShare_11 ?_
                                                                                                      refine va_get (D := D) (ci := 8) (v := .ref (h 4)) (C := RX8) (T := TX8) (N := 11) hx hb ht zinX8 hown hK hP 1 rfl rfl 3 (by decide) (ht _ zw_470) (fun _ h9 => h9) rfl dX11_provedShare_14 ?_
                                                                                                      refine lv_iload_n hx hb dX11_provedShare_17 rfl (lv_at hl 0 rfl) ?_
                                                                                                      refine va_aldq hx hb hK hP 2 0 rfl rfl (vp_in_iff.mpr (by decide)) dX11_provedShare_18 ?_
                                                                                                      refine W.eq (g2 := F0 m 19 ls (.null :: [])) rfl ?_
                                                                                                      refine lv_astore_nN (lv' := [(3, .null), (2, .int 49), (1, .int 0), (0, .ref (h 0))]) hx hb dX11_provedShare_19 rfl hl (by decide) rfl (fun ls hl => ?_)
                                                                                                      refine lv_iload_n hx hb dX11_provedShare_20 rfl (lv_at hl 2 rfl) ?_
                                                                                                      refine lv_aload_nN hx hb dX11_provedShare_21 rfl (lv_at hl 0 rfl) ?_
                                                                                                      refine lv_ifnullN (tgt := 36) hx hb dX11_provedShare_22 (by decide) ?_
                                                                                                      refine lv_iconst (v := 0) hx hb dX11_provedShare_36 (by decide) ?_
                                                                                                      refine lv_iadd hx hb dX11_provedShare_37 ?_
                                                                                                      refine lv_topi (fun x_199 e_199 => ?_)
                                                                                                      obtain rfl : x_199 = 0 := e_199.trans (by decide)
                                                                                                      refine lv_istore_n (lv' := [(1, .int 0), (3, .null), (2, .int 49), (0, .ref (h 0))]) hx hb dX11_provedShare_38 rfl hl (by decide) rfl (fun ls hl => ?_)
                                                                                                      refine lv_iinc (v := 50) (lv' := [(2, .int 50), (1, .int 0), (3, .null), (0, .ref (h 0))]) hx hb dX11_provedShare_39 hl (k := 2) rfl (by decide) (by decide) rfl (fun ls hl => ?_)
                                                                                                      refine lv_goto (tgt := 4) hx hb dX11_provedShare_42 (by decide) ?_
                                                                                                      refine lv_iload_n hx hb dX11_provedShare_4 rfl (lv_at hl 0 rfl) ?_
                                                                                                      refine lv_bipush (v := 100) hx hb dX11_provedShare_5 (by decide) ?_
                                                                                                      refine lv_icmp_ge (tgt := 45) hx hb dX11_provedShare_7 (by decide) (fun c_201 => ?_) (fun c_201 => ?_)
                                                                                                      · skip
                                                                                                        exact absurd c_201 (by decide)
                                                                                                      · skip
                                                                                                        refine lv_aload_n hx hb dX11_provedShare_10 rfl (lv_at hl 3 rfl) ?_
                                                                                                        refine va_get (D := D) (ci := 11) (v := .ref (h 1)) (C := RX11) (T := TX11) (N := 15) hx hb ht zinX11 hown hK hP 0 rfl rfl 0 (by decide) (ht _ zw_353) (fun _ h9 => h9) rfl dX11_provedShare_11 ?_
                                                                                                        refine va_get (D := D) (ci := 8) (v := .ref (h 4)) (C := RX8) (T := TX8) (N := 11) hx hb ht zinX8 hown hK hP 1 rfl rfl 3 (by decide) (ht _ zw_470) (fun _ h9 => h9) rfl dX11_provedShare_14 ?_
                                                                                                        refine lv_iload_n hx hb dX11_provedShare_17 rfl (lv_at hl 0 rfl) ?_
                                                                                                        refine va_aldq hx hb hK hP 2 0 rfl rfl (vp_in_iff.mpr (by decide)) dX11_provedShare_18 ?_
                                                                                                        refine W.eq (g2 := F0 m 19 ls (.null :: [])) rfl ?_
                                                                                                        refine lv_astore_nN (lv' := [(3, .null), (2, .int 50), (1, .int 0), (0, .ref (h 0))]) hx hb dX11_provedShare_19 rfl hl (by decide) rfl (fun ls hl => ?_)
                                                                                                        refine lv_iload_n hx hb dX11_provedShare_20 rfl (lv_at hl 2 rfl) ?_
                                                                                                        refine lv_aload_nN hx hb dX11_provedShare_21 rfl (lv_at hl 0 rfl) ?_
                                                                                                        refine lv_ifnullN (tgt := 36) hx hb dX11_provedShare_22 (by decide) ?_
                                                                                                        refine lv_iconst (v := 0) hx hb dX11_provedShare_36 (by decide) ?_
                                                                                                        refine lv_iadd hx hb dX11_provedShare_37 ?_
                                                                                                        refine lv_topi (fun x_203 e_203 => ?_)
                                                                                                        obtain rfl : x_203 = 0 := e_203.trans (by decide)
                                                                                                        refine lv_istore_n (lv' := [(1, .int 0), (3, .null), (2, .int 50), (0, .ref (h 0))]) hx hb dX11_provedShare_38 rfl hl (by decide) rfl (fun ls hl => ?_)
                                                                                                        refine lv_iinc (v := 51) (lv' := [(2, .int 51), (1, .int 0), (3, .null), (0, .ref (h 0))]) hx hb dX11_provedShare_39 hl (k := 2) rfl (by decide) (by decide) rfl (fun ls hl => ?_)
                                                                                                        refine lv_goto (tgt := 4) hx hb dX11_provedShare_42 (by decide) ?_
                                                                                                        refine lv_iload_n hx hb dX11_provedShare_4 rfl (lv_at hl 0 rfl) ?_
                                                                                                        refine lv_bipush (v := 100) hx hb dX11_provedShare_5 (by decide) ?_
                                                                                                        refine lv_icmp_ge (tgt := 45) hx hb dX11_provedShare_7 (by decide) (fun c_205 => ?_) (fun c_205 => ?_)
                                                                                                        · skip
                                                                                                          exact absurd c_205 (by decide)
                                                                                                        · skip
                                                                                                          refine lv_aload_n hx hb dX11_provedShare_10 rfl (lv_at hl 3 rfl) ?_
                                                                                                          refine va_get (D := D) (ci := 11) (v := .ref (h 1)) (C := RX11) (T := TX11) (N := 15) hx hb ht zinX11 hown hK hP 0 rfl rfl 0 (by decide) (ht _ zw_353) (fun _ h9 => h9) rfl dX11_provedShare_11 ?_
                                                                                                          refine va_get (D := D) (ci := 8) (v := .ref (h 4)) (C := RX8) (T := TX8) (N := 11) hx hb ht zinX8 hown hK hP 1 rfl rfl 3 (by decide) (ht _ zw_470) (fun _ h9 => h9) rfl dX11_provedShare_14 ?_
                                                                                                          refine lv_iload_n hx hb dX11_provedShare_17 rfl (lv_at hl 0 rfl) ?_
                                                                                                          refine va_aldq hx hb hK hP 2 0 rfl rfl (vp_in_iff.mpr (by decide)) dX11_provedShare_18 ?_
                                                                                                          refine W.eq (g2 := F0 m 19 ls (.null :: [])) rfl ?_
                                                                                                          refine lv_astore_nN (lv' := [(3, .null), (2, .int 51), (1, .int 0), (0, .ref (h 0))]) hx hb dX11_provedShare_19 rfl hl (by decide) rfl (fun ls hl => ?_)
                                                                                                          refine lv_iload_n hx hb dX11_provedShare_20 rfl (lv_at hl 2 rfl) ?_
                                                                                                          refine lv_aload_nN hx hb dX11_provedShare_21 rfl (lv_at hl 0 rfl) ?_
                                                                                                          refine lv_ifnullN (tgt := 36) hx hb dX11_provedShare_22 (by decide) ?_
                                                                                                          refine lv_iconst (v := 0) hx hb dX11_provedShare_36 (by decide) ?_
                                                                                                          refine lv_iadd hx hb dX11_provedShare_37 ?_
                                                                                                          refine lv_topi (fun x_207 e_207 => ?_)
                                                                                                          obtain rfl : x_207 = 0 := e_207.trans (by decide)
                                                                                                          refine lv_istore_n (lv' := [(1, .int 0), (3, .null), (2, .int 51), (0, .ref (h 0))]) hx hb dX11_provedShare_38 rfl hl (by decide) rfl (fun ls hl => ?_)
                                                                                                          refine lv_iinc (v := 52) (lv' := [(2, .int 52), (1, .int 0), (3, .null), (0, .ref (h 0))]) hx hb dX11_provedShare_39 hl (k := 2) rfl (by decide) (by decide) rfl (fun ls hl => ?_)
                                                                                                          refine lv_goto (tgt := 4) hx hb dX11_provedShare_42 (by decide) ?_
                                                                                                          refine lv_iload_n hx hb dX11_provedShare_4 rfl (lv_at hl 0 rfl) ?_
                                                                                                          refine lv_bipush (v := 100) hx hb dX11_provedShare_5 (by decide) ?_
                                                                                                          refine lv_icmp_ge (tgt := 45) hx hb dX11_provedShare_7 (by decide) (fun c_209 => ?_) (fun c_209 => ?_)
                                                                                                          · skip
                                                                                                            exact absurd c_209 (by decide)
                                                                                                          · skip
                                                                                                            refine lv_aload_n hx hb dX11_provedShare_10 rfl (lv_at hl 3 rfl) ?_
                                                                                                            refine va_get (D := D) (ci := 11) (v := .ref (h 1)) (C := RX11) (T := TX11) (N := 15) hx hb ht zinX11 hown hK hP 0 rfl rfl 0 (by decide) (ht _ zw_353) (fun _ h9 => h9) rfl dX11_provedShare_11 ?_
                                                                                                            refine va_get (D := D) (ci := 8) (v := .ref (h 4)) (C := RX8) (T := TX8) (N := 11) hx hb ht zinX8 hown hK hP 1 rfl rfl 3 (by decide) (ht _ zw_470) (fun _ h9 => h9) rfl dX11_provedShare_14 ?_
                                                                                                            refine lv_iload_n hx hb dX11_provedShare_17 rfl (lv_at hl 0 rfl) ?_
                                                                                                            refine va_aldq hx hb hK hP 2 0 rfl rfl (vp_in_iff.mpr (by decide)) dX11_provedShare_18 ?_
                                                                                                            refine W.eq (g2 := F0 m 19 ls (.null :: [])) rfl ?_
                                                                                                            refine lv_astore_nN (lv' := [(3, .null), (2, .int 52), (1, .int 0), (0, .ref (h 0))]) hx hb dX11_provedShare_19 rfl hl (by decide) rfl (fun ls hl => ?_)
                                                                                                            refine lv_iload_n hx hb dX11_provedShare_20 rfl (lv_at hl 2 rfl) ?_
                                                                                                            refine lv_aload_nN hx hb dX11_provedShare_21 rfl (lv_at hl 0 rfl) ?_
                                                                                                            refine lv_ifnullN (tgt := 36) hx hb dX11_provedShare_22 (by decide) ?_
                                                                                                            refine lv_iconst (v := 0) hx hb dX11_provedShare_36 (by decide) ?_
                                                                                                            refine lv_iadd hx hb dX11_provedShare_37 ?_
                                                                                                            refine lv_topi (fun x_211 e_211 => ?_)
                                                                                                            obtain rfl : x_211 = 0 := e_211.trans (by decide)
                                                                                                            refine lv_istore_n (lv' := [(1, .int 0), (3, .null), (2, .int 52), (0, .ref (h 0))]) hx hb dX11_provedShare_38 rfl hl (by decide) rfl (fun ls hl => ?_)
                                                                                                            refine lv_iinc (v := 53) (lv' := [(2, .int 53), (1, .int 0), (3, .null), (0, .ref (h 0))]) hx hb dX11_provedShare_39 hl (k := 2) rfl (by decide) (by decide) rfl (fun ls hl => ?_)
                                                                                                            refine lv_goto (tgt := 4) hx hb dX11_provedShare_42 (by decide) ?_
                                                                                                            refine lv_iload_n hx hb dX11_provedShare_4 rfl (lv_at hl 0 rfl) ?_
                                                                                                            refine lv_bipush (v := 100) hx hb dX11_provedShare_5 (by decide) ?_
                                                                                                            refine lv_icmp_ge (tgt := 45) hx hb dX11_provedShare_7 (by decide) (fun c_213 => ?_) (fun c_213 => ?_)
                                                                                                            · skip
                                                                                                              exact absurd c_213 (by decide)
                                                                                                            · skip
                                                                                                              refine lv_aload_n hx hb dX11_provedShare_10 rfl (lv_at hl 3 rfl) ?_
                                                                                                              refine va_get (D := D) (ci := 11) (v := .ref (h 1)) (C := RX11) (T := TX11) (N := 15) hx hb ht zinX11 hown hK hP 0 rfl rfl 0 (by decide) (ht _ zw_353) (fun _ h9 => h9) rfl dX11_provedShare_11 ?_
                                                                                                              refine va_get (D := D) (ci := 8) (v := .ref (h 4)) (C := RX8) (T := TX8) (N := 11) hx hb ht zinX8 hown hK hP 1 rfl rfl 3 (by decide) (ht _ zw_470) (fun _ h9 => h9) rfl dX11_provedShare_14 ?_
                                                                                                              refine lv_iload_n hx hb dX11_provedShare_17 rfl (lv_at hl 0 rfl) ?_
                                                                                                              refine va_aldq hx hb hK hP 2 0 rfl rfl (vp_in_iff.mpr (by decide)) dX11_provedShare_18 ?_
                                                                                                              refine W.eq (g2 := F0 m 19 ls (.null :: [])) rfl ?_
                                                                                                              refine lv_astore_nN (lv' := [(3, .null), (2, .int 53), (1, .int 0), (0, .ref (h 0))]) hx hb dX11_provedShare_19 rfl hl (by decide) rfl (fun ls hl => ?_)
                                                                                                              refine lv_iload_n hx hb dX11_provedShare_20 rfl (lv_at hl 2 rfl) ?_
                                                                                                              refine lv_aload_nN hx hb dX11_provedShare_21 rfl (lv_at hl 0 rfl) ?_
                                                                                                              refine lv_ifnullN (tgt := 36) hx hb dX11_provedShare_22 (by decide) ?_
                                                                                                              refine lv_iconst (v := 0) hx hb dX11_provedShare_36 (by decide) ?_
                                                                                                              refine lv_iadd hx hb dX11_provedShare_37 ?_
                                                                                                              refine lv_topi (fun x_215 e_215 => ?_)
                                                                                                              obtain rfl : x_215 = 0 := e_215.trans (by decide)
                                                                                                              refine lv_istore_n (lv' := [(1, .int 0), (3, .null), (2, .int 53), (0, .ref (h 0))]) hx hb dX11_provedShare_38 rfl hl (by decide) rfl (fun ls hl => ?_)
                                                                                                              refine lv_iinc (v := 54) (lv' := [(2, .int 54), (1, .int 0), (3, .null), (0, .ref (h 0))]) hx hb dX11_provedShare_39 hl (k := 2) rfl (by decide) (by decide) rfl (fun ls hl => ?_)
                                                                                                              refine lv_goto (tgt := 4) hx hb dX11_provedShare_42 (by decide) ?_
                                                                                                              refine lv_iload_n hx hb dX11_provedShare_4 rfl (lv_at hl 0 rfl) ?_
                                                                                                              refine lv_bipush (v := 100) hx hb dX11_provedShare_5 (by decide) ?_
                                                                                                              refine lv_icmp_ge (tgt := 45) hx hb dX11_provedShare_7 (by decide) (fun c_217 => ?_) (fun c_217 => ?_)
                                                                                                              · skip
                                                                                                                exact absurd c_217 (by decide)
                                                                                                              · skip
                                                                                                                refine lv_aload_n hx hb dX11_provedShare_10 rfl (lv_at hl 3 rfl) ?_
                                                                                                                refine va_get (D := D) (ci := 11) (v := .ref (h 1)) (C := RX11) (T := TX11) (N := 15) hx hb ht zinX11 hown hK hP 0 rfl rfl 0 (by decide) (ht _ zw_353) (fun _ h9 => h9) rfl dX11_provedShare_11 ?_
                                                                                                                refine va_get (D := D) (ci := 8) (v := .ref (h 4)) (C := RX8) (T := TX8) (N := 11) hx hb ht zinX8 hown hK hP 1 rfl rfl 3 (by decide) (ht _ zw_470) (fun _ h9 => h9) rfl dX11_provedShare_14 ?_
                                                                                                                refine lv_iload_n hx hb dX11_provedShare_17 rfl (lv_at hl 0 rfl) ?_
                                                                                                                refine va_aldq hx hb hK hP 2 0 rfl rfl (vp_in_iff.mpr (by decide)) dX11_provedShare_18 ?_
                                                                                                                refine W.eq (g2 := F0 m 19 ls (.null :: [])) rfl ?_
                                                                                                                refine lv_astore_nN (lv' := [(3, .null), (2, .int 54), (1, .int 0), (0, .ref (h 0))]) hx hb dX11_provedShare_19 rfl hl (by decide) rfl (fun ls hl => ?_)
                                                                                                                refine lv_iload_n hx hb dX11_provedShare_20 rfl (lv_at hl 2 rfl) ?_
                                                                                                                refine lv_aload_nN hx hb dX11_provedShare_21 rfl (lv_at hl 0 rfl) ?_
                                                                                                                refine lv_ifnullN (tgt := 36) hx hb dX11_provedShare_22 (by decide) ?_
                                                                                                                refine lv_iconst (v := 0) hx hb dX11_provedShare_36 (by decide) ?_
                                                                                                                refine lv_iadd hx hb dX11_provedShare_37 ?_
                                                                                                                refine lv_topi (fun x_219 e_219 => ?_)
                                                                                                                obtain rfl : x_219 = 0 := e_219.trans (by decide)
                                                                                                                refine lv_istore_n (lv' := [(1, .int 0), (3, .null), (2, .int 54), (0, .ref (h 0))]) hx hb dX11_provedShare_38 rfl hl (by decide) rfl (fun ls hl => ?_)
                                                                                                                refine lv_iinc (v := 55) (lv' := [(2, .int 55), (1, .int 0), (3, .null), (0, .ref (h 0))]) hx hb dX11_provedShare_39 hl (k := 2) rfl (by decide) (by decide) rfl (fun ls hl => ?_)
                                                                                                                refine lv_goto (tgt := 4) hx hb dX11_provedShare_42 (by decide) ?_
                                                                                                                refine lv_iload_n hx hb dX11_provedShare_4 rfl (lv_at hl 0 rfl) ?_
                                                                                                                refine lv_bipush (v := 100) hx hb dX11_provedShare_5 (by decide) ?_
                                                                                                                refine lv_icmp_ge (tgt := 45) hx hb dX11_provedShare_7 (by decide) (fun c_221 => ?_) (fun c_221 => ?_)
                                                                                                                · skip
                                                                                                                  exact absurd c_221 (by decide)
                                                                                                                · skip
                                                                                                                  refine lv_aload_n hx hb dX11_provedShare_10 rfl (lv_at hl 3 rfl) ?_
                                                                                                                  refine va_get (D := D) (ci := 11) (v := .ref (h 1)) (C := RX11) (T := TX11) (N := 15) hx hb ht zinX11 hown hK hP 0 rfl rfl 0 (by decide) (ht _ zw_353) (fun _ h9 => h9) rfl dX11_provedShare_11 ?_
                                                                                                                  refine va_get (D := D) (ci := 8) (v := .ref (h 4)) (C := RX8) (T := TX8) (N := 11) hx hb ht zinX8 hown hK hP 1 rfl rfl 3 (by decide) (ht _ zw_470) (fun _ h9 => h9) rfl dX11_provedShare_14 ?_
                                                                                                                  refine lv_iload_n hx hb dX11_provedShare_17 rfl (lv_at hl 0 rfl) ?_
                                                                                                                  refine va_aldq hx hb hK hP 2 0 rfl rfl (vp_in_iff.mpr (by decide)) dX11_provedShare_18 ?_
                                                                                                                  refine W.eq (g2 := F0 m 19 ls (.null :: [])) rfl ?_
                                                                                                                  refine lv_astore_nN (lv' := [(3, .null), (2, .int 55), (1, .int 0), (0, .ref (h 0))]) hx hb dX11_provedShare_19 rfl hl (by decide) rfl (fun ls hl => ?_)
                                                                                                                  refine lv_iload_n hx hb dX11_provedShare_20 rfl (lv_at hl 2 rfl) ?_
                                                                                                                  refine lv_aload_nN hx hb dX11_provedShare_21 rfl (lv_at hl 0 rfl) ?_
                                                                                                                  refine lv_ifnullN (tgt := 36) hx hb dX11_provedShare_22 (by decide) ?_
                                                                                                                  refine lv_iconst (v := 0) hx hb dX11_provedShare_36 (by decide) ?_
                                                                                                                  refine lv_iadd hx hb dX11_provedShare_37 ?_
                                                                                                                  refine lv_topi (fun x_223 e_223 => ?_)
                                                                                                                  obtain rfl : x_223 = 0 := e_223.trans (by decide)
                                                                                                                  refine lv_istore_n (lv' := [(1, .int 0), (3, .null), (2, .int 55), (0, .ref (h 0))]) hx hb dX11_provedShare_38 rfl hl (by decide) rfl (fun ls hl => ?_)
                                                                                                                  refine lv_iinc (v := 56) (lv' := [(2, .int 56), (1, .int 0), (3, .null), (0, .ref (h 0))]) hx hb dX11_provedShare_39 hl (k := 2) rfl (by decide) (by decide) rfl (fun ls hl => ?_)
                                                                                                                  refine lv_goto (tgt := 4) hx hb dX11_provedShare_42 (by decide) ?_
                                                                                                                  refine lv_iload_n hx hb dX11_provedShare_4 rfl (lv_at hl 0 rfl) ?_
                                                                                                                  refine lv_bipush (v := 100) hx hb dX11_provedShare_5 (by decide) ?_
                                                                                                                  refine lv_icmp_ge (tgt := 45) hx hb dX11_provedShare_7 (by decide) (fun c_225 => ?_) (fun c_225 => ?_)
                                                                                                                  · skip
                                                                                                                    exact absurd c_225 (by decide)
                                                                                                                  · skip
                                                                                                                    refine lv_aload_n hx hb dX11_provedShare_10 rfl (lv_at hl 3 rfl) ?_
                                                                                                                    refine va_get (D := D) (ci := 11) (v := .ref (h 1)) (C := RX11) (T := TX11) (N := 15) hx hb ht zinX11 hown hK hP 0 rfl rfl 0 (by decide) (ht _ zw_353) (fun _ h9 => h9) rfl dX11_provedShare_11 ?_
                                                                                                                    refine va_get (D := D) (ci := 8) (v := .ref (h 4)) (C := RX8) (T := TX8) (N := 11) hx hb ht zinX8 hown hK hP 1 rfl rfl 3 (by decide) (ht _ zw_470) (fun _ h9 => h9) rfl dX11_provedShare_14 ?_
                                                                                                                    refine lv_iload_n hx hb dX11_provedShare_17 rfl (lv_at hl 0 rfl) ?_
                                                                                                                    refine va_aldq hx hb hK hP 2 0 rfl rfl (vp_in_iff.mpr (by decide)) dX11_provedShare_18 ?_
                                                                                                                    refine W.eq (g2 := F0 m 19 ls (.null :: [])) rfl ?_
                                                                                                                    refine lv_astore_nN (lv' := [(3, .null), (2, .int 56), (1, .int 0), (0, .ref (h 0))]) hx hb dX11_provedShare_19 rfl hl (by decide) rfl (fun ls hl => ?_)
                                                                                                                    refine lv_iload_n hx hb dX11_provedShare_20 rfl (lv_at hl 2 rfl) ?_
                                                                                                                    refine lv_aload_nN hx hb dX11_provedShare_21 rfl (lv_at hl 0 rfl) ?_
                                                                                                                    refine lv_ifnullN (tgt := 36) hx hb dX11_provedShare_22 (by decide) ?_
                                                                                                                    refine lv_iconst (v := 0) hx hb dX11_provedShare_36 (by decide) ?_
                                                                                                                    refine lv_iadd hx hb dX11_provedShare_37 ?_
                                                                                                                    refine lv_topi (fun x_227 e_227 => ?_)
                                                                                                                    obtain rfl : x_227 = 0 := e_227.trans (by decide)
                                                                                                                    refine lv_istore_n (lv' := [(1, .int 0), (3, .null), (2, .int 56), (0, .ref (h 0))]) hx hb dX11_provedShare_38 rfl hl (by decide) rfl (fun ls hl => ?_)
                                                                                                                    refine lv_iinc (v := 57) (lv' := [(2, .int 57), (1, .int 0), (3, .null), (0, .ref (h 0))]) hx hb dX11_provedShare_39 hl (k := 2) rfl (by decide) (by decide) rfl (fun ls hl => ?_)
                                                                                                                    refine lv_goto (tgt := 4) hx hb dX11_provedShare_42 (by decide) ?_
                                                                                                                    refine lv_iload_n hx hb dX11_provedShare_4 rfl (lv_at hl 0 rfl) ?_
                                                                                                                    refine lv_bipush (v := 100) hx hb dX11_provedShare_5 (by decide) ?_
                                                                                                                    refine lv_icmp_ge (tgt := 45) hx hb dX11_provedShare_7 (by decide) (fun c_229 => ?_) (fun c_229 => ?_)
                                                                                                                    · skip
                                                                                                                      exact absurd c_229 (by decide)
                                                                                                                    · skip
                                                                                                                      refine lv_aload_n hx hb dX11_provedShare_10 rfl (lv_at hl 3 rfl) ?_
                                                                                                                      refine va_get (D := D) (ci := 11) (v := .ref (h 1)) (C := RX11) (T := TX11) (N := 15) hx hb ht zinX11 hown hK hP 0 rfl rfl 0 (by decide) (ht _ zw_353) (fun _ h9 => h9) rfl dX11_provedShare_11 ?_
                                                                                                                      refine va_get (D := D) (ci := 8) (v := .ref (h 4)) (C := RX8) (T := TX8) (N := 11) hx hb ht zinX8 hown hK hP 1 rfl rfl 3 (by decide) (ht _ zw_470) (fun _ h9 => h9) rfl dX11_provedShare_14 ?_
                                                                                                                      refine lv_iload_n hx hb dX11_provedShare_17 rfl (lv_at hl 0 rfl) ?_
                                                                                                                      refine va_aldq hx hb hK hP 2 0 rfl rfl (vp_in_iff.mpr (by decide)) dX11_provedShare_18 ?_
                                                                                                                      refine W.eq (g2 := F0 m 19 ls (.null :: [])) rfl ?_
                                                                                                                      refine lv_astore_nN (lv' := [(3, .null), (2, .int 57), (1, .int 0), (0, .ref (h 0))]) hx hb dX11_provedShare_19 rfl hl (by decide) rfl (fun ls hl => ?_)
                                                                                                                      refine lv_iload_n hx hb dX11_provedShare_20 rfl (lv_at hl 2 rfl) ?_
                                                                                                                      refine lv_aload_nN hx hb dX11_provedShare_21 rfl (lv_at hl 0 rfl) ?_
                                                                                                                      refine lv_ifnullN (tgt := 36) hx hb dX11_provedShare_22 (by decide) ?_
                                                                                                                      refine lv_iconst (v := 0) hx hb dX11_provedShare_36 (by decide) ?_
                                                                                                                      refine lv_iadd hx hb dX11_provedShare_37 ?_
                                                                                                                      refine lv_topi (fun x_231 e_231 => ?_)
                                                                                                                      obtain rfl : x_231 = 0 := e_231.trans (by decide)
                                                                                                                      refine lv_istore_n (lv' := [(1, .int 0), (3, .null), (2, .int 57), (0, .ref (h 0))]) hx hb dX11_provedShare_38 rfl hl (by decide) rfl (fun ls hl => ?_)
                                                                                                                      refine lv_iinc (v := 58) (lv' := [(2, .int 58), (1, .int 0), (3, .null), (0, .ref (h 0))]) hx hb dX11_provedShare_39 hl (k := 2) rfl (by decide) (by decide) rfl (fun ls hl => ?_)
                                                                                                                      refine lv_goto (tgt := 4) hx hb dX11_provedShare_42 (by decide) ?_
                                                                                                                      refine lv_iload_n hx hb dX11_provedShare_4 rfl (lv_at hl 0 rfl) ?_
                                                                                                                      refine lv_bipush (v := 100) hx hb dX11_provedShare_5 (by decide) ?_
                                                                                                                      refine lv_icmp_ge (tgt := 45) hx hb dX11_provedShare_7 (by decide) (fun c_233 => ?_) (fun c_233 => ?_)
                                                                                                                      · skip
                                                                                                                        exact absurd c_233 (by decide)
                                                                                                                      · skip
                                                                                                                        refine lv_aload_n hx hb dX11_provedShare_10 rfl (lv_at hl 3 rfl) ?_
                                                                                                                        refine va_get (D := D) (ci := 11) (v := .ref (h 1)) (C := RX11) (T := TX11) (N := 15) hx hb ht zinX11 hown hK hP 0 rfl rfl 0 (by decide) (ht _ zw_353) (fun _ h9 => h9) rfl dX11_provedShare_11 ?_
                                                                                                                        refine va_get (D := D) (ci := 8) (v := .ref (h 4)) (C := RX8) (T := TX8) (N := 11) hx hb ht zinX8 hown hK hP 1 rfl rfl 3 (by decide) (ht _ zw_470) (fun _ h9 => h9) rfl dX11_provedShare_14 ?_
                                                                                                                        refine lv_iload_n hx hb dX11_provedShare_17 rfl (lv_at hl 0 rfl) ?_
                                                                                                                        refine va_aldq hx hb hK hP 2 0 rfl rfl (vp_in_iff.mpr (by decide)) dX11_provedShare_18 ?_
                                                                                                                        refine W.eq (g2 := F0 m 19 ls (.null :: [])) rfl ?_
                                                                                                                        refine lv_astore_nN (lv' := [(3, .null), (2, .int 58), (1, .int 0), (0, .ref (h 0))]) hx hb dX11_provedShare_19 rfl hl (by decide) rfl (fun ls hl => ?_)
                                                                                                                        refine lv_iload_n hx hb dX11_provedShare_20 rfl (lv_at hl 2 rfl) ?_
                                                                                                                        refine lv_aload_nN hx hb dX11_provedShare_21 rfl (lv_at hl 0 rfl) ?_
                                                                                                                        refine lv_ifnullN (tgt := 36) hx hb dX11_provedShare_22 (by decide) ?_
                                                                                                                        refine lv_iconst (v := 0) hx hb dX11_provedShare_36 (by decide) ?_
                                                                                                                        refine lv_iadd hx hb dX11_provedShare_37 ?_
                                                                                                                        refine lv_topi (fun x_235 e_235 => ?_)
                                                                                                                        obtain rfl : x_235 = 0 := e_235.trans (by decide)
                                                                                                                        refine lv_istore_n (lv' := [(1, .int 0), (3, .null), (2, .int 58), (0, .ref (h 0))]) hx hb dX11_provedShare_38 rfl hl (by decide) rfl (fun ls hl => ?_)
                                                                                                                        refine lv_iinc (v := 59) (lv' := [(2, .int 59), (1, .int 0), (3, .null), (0, .ref (h 0))]) hx hb dX11_provedShare_39 hl (k := 2) rfl (by decide) (by decide) rfl (fun ls hl => ?_)
                                                                                                                        refine lv_goto (tgt := 4) hx hb dX11_provedShare_42 (by decide) ?_
                                                                                                                        refine lv_iload_n hx hb dX11_provedShare_4 rfl (lv_at hl 0 rfl) ?_
                                                                                                                        refine lv_bipush (v := 100) hx hb dX11_provedShare_5 (by decide) ?_
                                                                                                                        refine lv_icmp_ge (tgt := 45) hx hb dX11_provedShare_7 (by decide) (fun c_237 => ?_) (fun c_237 => ?_)
                                                                                                                        · skip
                                                                                                                          exact absurd c_237 (by decide)
                                                                                                                        · skip
                                                                                                                          refine lv_aload_n hx hb dX11_provedShare_10 rfl (lv_at hl 3 rfl) ?_
                                                                                                                          refine va_get (D := D) (ci := 11) (v := .ref (h 1)) (C := RX11) (T := TX11) (N := 15) hx hb ht zinX11 hown hK hP 0 rfl rfl 0 (by decide) (ht _ zw_353) (fun _ h9 => h9) rfl dX11_provedShare_11 ?_
                                                                                                                          refine va_get (D := D) (ci := 8) (v := .ref (h 4)) (C := RX8) (T := TX8) (N := 11) hx hb ht zinX8 hown hK hP 1 rfl rfl 3 (by decide) (ht _ zw_470) (fun _ h9 => h9) rfl dX11_provedShare_14 ?_
                                                                                                                          refine lv_iload_n hx hb dX11_provedShare_17 rfl (lv_at hl 0 rfl) ?_
                                                                                                                          refine va_aldq hx hb hK hP 2 0 rfl rfl (vp_in_iff.mpr (by decide)) dX11_provedShare_18 ?_
                                                                                                                          refine W.eq (g2 := F0 m 19 ls (.null :: [])) rfl ?_
                                                                                                                          refine lv_astore_nN (lv' := [(3, .null), (2, .int 59), (1, .int 0), (0, .ref (h 0))]) hx hb dX11_provedShare_19 rfl hl (by decide) rfl (fun ls hl => ?_)
                                                                                                                          refine lv_iload_n hx hb dX11_provedShare_20 rfl (lv_at hl 2 rfl) ?_
                                                                                                                          refine lv_aload_nN hx hb dX11_provedShare_21 rfl (lv_at hl 0 rfl) ?_
                                                                                                                          refine lv_ifnullN (tgt := 36) hx hb dX11_provedShare_22 (by decide) ?_
                                                                                                                          refine lv_iconst (v := 0) hx hb dX11_provedShare_36 (by decide) ?_
                                                                                                                          refine lv_iadd hx hb dX11_provedShare_37 ?_
                                                                                                                          refine lv_topi (fun x_239 e_239 => ?_)
                                                                                                                          obtain rfl : x_239 = 0 := e_239.trans (by decide)
                                                                                                                          refine lv_istore_n (lv' := [(1, .int 0), (3, .null), (2, .int 59), (0, .ref (h 0))]) hx hb dX11_provedShare_38 rfl hl (by decide) rfl (fun ls hl => ?_)
                                                                                                                          refine lv_iinc (v := 60) (lv' := [(2, .int 60), (1, .int 0), (3, .null), (0, .ref (h 0))]) hx hb dX11_provedShare_39 hl (k := 2) rfl (by decide) (by decide) rfl (fun ls hl => ?_)
                                                                                                                          refine lv_goto (tgt := 4) hx hb dX11_provedShare_42 (by decide) ?_
                                                                                                                          refine lv_iload_n hx hb dX11_provedShare_4 rfl (lv_at hl 0 rfl) ?_
                                                                                                                          refine lv_bipush (v := 100) hx hb dX11_provedShare_5 (by decide) ?_
                                                                                                                          refine lv_icmp_ge (tgt := 45) hx hb dX11_provedShare_7 (by decide) (fun c_241 => ?_) (fun c_241 => ?_)
                                                                                                                          · skip
                                                                                                                            exact absurd c_241 (by decide)
                                                                                                                          · skip
                                                                                                                            refine lv_aload_n hx hb dX11_provedShare_10 rfl (lv_at hl 3 rfl) ?_
                                                                                                                            refine va_get (D := D) (ci := 11) (v := .ref (h 1)) (C := RX11) (T := TX11) (N := 15) hx hb ht zinX11 hown hK hP 0 rfl rfl 0 (by decide) (ht _ zw_353) (fun _ h9 => h9) rfl dX11_provedShare_11 ?_
                                                                                                                            refine va_get (D := D) (ci := 8) (v := .ref (h 4)) (C := RX8) (T := TX8) (N := 11) hx hb ht zinX8 hown hK hP 1 rfl rfl 3 (by decide) (ht _ zw_470) (fun _ h9 => h9) rfl dX11_provedShare_14 ?_
                                                                                                                            refine lv_iload_n hx hb dX11_provedShare_17 rfl (lv_at hl 0 rfl) ?_
                                                                                                                            refine va_aldq hx hb hK hP 2 0 rfl rfl (vp_in_iff.mpr (by decide)) dX11_provedShare_18 ?_
                                                                                                                            refine W.eq (g2 := F0 m 19 ls (.null :: [])) rfl ?_
                                                                                                                            refine lv_astore_nN (lv' := [(3, .null), (2, .int 60), (1, .int 0), (0, .ref (h 0))]) hx hb dX11_provedShare_19 rfl hl (by decide) rfl (fun ls hl => ?_)
                                                                                                                            refine lv_iload_n hx hb dX11_provedShare_20 rfl (lv_at hl 2 rfl) ?_
                                                                                                                            refine lv_aload_nN hx hb dX11_provedShare_21 rfl (lv_at hl 0 rfl) ?_
                                                                                                                            refine lv_ifnullN (tgt := 36) hx hb dX11_provedShare_22 (by decide) ?_
                                                                                                                            refine lv_iconst (v := 0) hx hb dX11_provedShare_36 (by decide) ?_
                                                                                                                            refine lv_iadd hx hb dX11_provedShare_37 ?_
                                                                                                                            refine lv_topi (fun x_243 e_243 => ?_)
                                                                                                                            obtain rfl : x_243 = 0 := e_243.trans (by decide)
                                                                                                                            refine lv_istore_n (lv' := [(1, .int 0), (3, .null), (2, .int 60), (0, .ref (h 0))]) hx hb dX11_provedShare_38 rfl hl (by decide) rfl (fun ls hl => ?_)
                                                                                                                            refine lv_iinc (v := 61) (lv' := [(2, .int 61), (1, .int 0), (3, .null), (0, .ref (h 0))]) hx hb dX11_provedShare_39 hl (k := 2) rfl (by decide) (by decide) rfl (fun ls hl => ?_)
                                                                                                                            refine lv_goto (tgt := 4) hx hb dX11_provedShare_42 (by decide) ?_
                                                                                                                            refine lv_iload_n hx hb dX11_provedShare_4 rfl (lv_at hl 0 rfl) ?_
                                                                                                                            refine lv_bipush (v := 100) hx hb dX11_provedShare_5 (by decide) ?_
                                                                                                                            refine lv_icmp_ge (tgt := 45) hx hb dX11_provedShare_7 (by decide) (fun c_245 => ?_) (fun c_245 => ?_)
                                                                                                                            · skip
                                                                                                                              exact absurd c_245 (by decide)
                                                                                                                            · skip
                                                                                                                              refine lv_aload_n hx hb dX11_provedShare_10 rfl (lv_at hl 3 rfl) ?_
                                                                                                                              refine va_get (D := D) (ci := 11) (v := .ref (h 1)) (C := RX11) (T := TX11) (N := 15) hx hb ht zinX11 hown hK hP 0 rfl rfl 0 (by decide) (ht _ zw_353) (fun _ h9 => h9) rfl dX11_provedShare_11 ?_
                                                                                                                              refine va_get (D := D) (ci := 8) (v := .ref (h 4)) (C := RX8) (T := TX8) (N := 11) hx hb ht zinX8 hown hK hP 1 rfl rfl 3 (by decide) (ht _ zw_470) (fun _ h9 => h9) rfl dX11_provedShare_14 ?_
                                                                                                                              refine lv_iload_n hx hb dX11_provedShare_17 rfl (lv_at hl 0 rfl) ?_
                                                                                                                              refine va_aldq hx hb hK hP 2 0 rfl rfl (vp_in_iff.mpr (by decide)) dX11_provedShare_18 ?_
                                                                                                                              refine W.eq (g2 := F0 m 19 ls (.null :: [])) rfl ?_
                                                                                                                              refine lv_astore_nN (lv' := [(3, .null), (2, .int 61), (1, .int 0), (0, .ref (h 0))]) hx hb dX11_provedShare_19 rfl hl (by decide) rfl (fun ls hl => ?_)
                                                                                                                              refine lv_iload_n hx hb dX11_provedShare_20 rfl (lv_at hl 2 rfl) ?_
                                                                                                                              refine lv_aload_nN hx hb dX11_provedShare_21 rfl (lv_at hl 0 rfl) ?_
                                                                                                                              refine lv_ifnullN (tgt := 36) hx hb dX11_provedShare_22 (by decide) ?_
                                                                                                                              refine lv_iconst (v := 0) hx hb dX11_provedShare_36 (by decide) ?_
                                                                                                                              refine lv_iadd hx hb dX11_provedShare_37 ?_
                                                                                                                              refine lv_topi (fun x_247 e_247 => ?_)
                                                                                                                              obtain rfl : x_247 = 0 := e_247.trans (by decide)
                                                                                                                              refine lv_istore_n (lv' := [(1, .int 0), (3, .null), (2, .int 61), (0, .ref (h 0))]) hx hb dX11_provedShare_38 rfl hl (by decide) rfl (fun ls hl => ?_)
                                                                                                                              refine lv_iinc (v := 62) (lv' := [(2, .int 62), (1, .int 0), (3, .null), (0, .ref (h 0))]) hx hb dX11_provedShare_39 hl (k := 2) rfl (by decide) (by decide) rfl (fun ls hl => ?_)
                                                                                                                              refine lv_goto (tgt := 4) hx hb dX11_provedShare_42 (by decide) ?_
                                                                                                                              refine lv_iload_n hx hb dX11_provedShare_4 rfl (lv_at hl 0 rfl) ?_
                                                                                                                              refine lv_bipush (v := 100) hx hb dX11_provedShare_5 (by decide) ?_
                                                                                                                              refine lv_icmp_ge (tgt := 45) hx hb dX11_provedShare_7 (by decide) (fun c_249 => ?_) (fun c_249 => ?_)
                                                                                                                              · skip
                                                                                                                                exact absurd c_249 (by decide)
                                                                                                                              · skip
                                                                                                                                refine lv_aload_n hx hb dX11_provedShare_10 rfl (lv_at hl 3 rfl) ?_
                                                                                                                                refine va_get (D := D) (ci := 11) (v := .ref (h 1)) (C := RX11) (T := TX11) (N := 15) hx hb ht zinX11 hown hK hP 0 rfl rfl 0 (by decide) (ht _ zw_353) (fun _ h9 => h9) rfl dX11_provedShare_11 ?_
                                                                                                                                refine va_get (D := D) (ci := 8) (v := .ref (h 4)) (C := RX8) (T := TX8) (N := 11) hx hb ht zinX8 hown hK hP 1 rfl rfl 3 (by decide) (ht _ zw_470) (fun _ h9 => h9) rfl dX11_provedShare_14 ?_
                                                                                                                                refine lv_iload_n hx hb dX11_provedShare_17 rfl (lv_at hl 0 rfl) ?_
                                                                                                                                refine va_aldq hx hb hK hP 2 0 rfl rfl (vp_in_iff.mpr (by decide)) dX11_provedShare_18 ?_
                                                                                                                                refine W.eq (g2 := F0 m 19 ls (.null :: [])) rfl ?_
                                                                                                                                refine lv_astore_nN (lv' := [(3, .null), (2, .int 62), (1, .int 0), (0, .ref (h 0))]) hx hb dX11_provedShare_19 rfl hl (by decide) rfl (fun ls hl => ?_)
                                                                                                                                refine lv_iload_n hx hb dX11_provedShare_20 rfl (lv_at hl 2 rfl) ?_
                                                                                                                                refine lv_aload_nN hx hb dX11_provedShare_21 rfl (lv_at hl 0 rfl) ?_
                                                                                                                                refine lv_ifnullN (tgt := 36) hx hb dX11_provedShare_22 (by decide) ?_
                                                                                                                                refine lv_iconst (v := 0) hx hb dX11_provedShare_36 (by decide) ?_
                                                                                                                                refine lv_iadd hx hb dX11_provedShare_37 ?_
                                                                                                                                refine lv_topi (fun x_251 e_251 => ?_)
                                                                                                                                obtain rfl : x_251 = 0 := e_251.trans (by decide)
                                                                                                                                refine lv_istore_n (lv' := [(1, .int 0), (3, .null), (2, .int 62), (0, .ref (h 0))]) hx hb dX11_provedShare_38 rfl hl (by decide) rfl (fun ls hl => ?_)
                                                                                                                                refine lv_iinc (v := 63) (lv' := [(2, .int 63), (1, .int 0), (3, .null), (0, .ref (h 0))]) hx hb dX11_provedShare_39 hl (k := 2) rfl (by decide) (by decide) rfl (fun ls hl => ?_)
                                                                                                                                refine lv_goto (tgt := 4) hx hb dX11_provedShare_42 (by decide) ?_
                                                                                                                                refine lv_iload_n hx hb dX11_provedShare_4 rfl (lv_at hl 0 rfl) ?_
                                                                                                                                refine lv_bipush (v := 100) hx hb dX11_provedShare_5 (by decide) ?_
                                                                                                                                refine lv_icmp_ge (tgt := 45) hx hb dX11_provedShare_7 (by decide) (fun c_253 => ?_) (fun c_253 => ?_)
                                                                                                                                · skip
                                                                                                                                  exact absurd c_253 (by decide)
                                                                                                                                · skip
                                                                                                                                  refine lv_aload_n hx hb dX11_provedShare_10 rfl (lv_at hl 3 rfl) ?_
                                                                                                                                  refine va_get (D := D) (ci := 11) (v := .ref (h 1)) (C := RX11) (T := TX11) (N := 15) hx hb ht zinX11 hown hK hP 0 rfl rfl 0 (by decide) (ht _ zw_353) (fun _ h9 => h9) rfl dX11_provedShare_11 ?_
                                                                                                                                  refine va_get (D := D) (ci := 8) (v := .ref (h 4)) (C := RX8) (T := TX8) (N := 11) hx hb ht zinX8 hown hK hP 1 rfl rfl 3 (by decide) (ht _ zw_470) (fun _ h9 => h9) rfl dX11_provedShare_14 ?_
                                                                                                                                  refine lv_iload_n hx hb dX11_provedShare_17 rfl (lv_at hl 0 rfl) ?_
                                                                                                                                  refine va_aldq hx hb hK hP 2 0 rfl rfl (vp_in_iff.mpr (by decide)) dX11_provedShare_18 ?_
                                                                                                                                  refine W.eq (g2 := F0 m 19 ls (.null :: [])) rfl ?_
                                                                                                                                  refine lv_astore_nN (lv' := [(3, .null), (2, .int 63), (1, .int 0), (0, .ref (h 0))]) hx hb dX11_provedShare_19 rfl hl (by decide) rfl (fun ls hl => ?_)
                                                                                                                                  refine lv_iload_n hx hb dX11_provedShare_20 rfl (lv_at hl 2 rfl) ?_
                                                                                                                                  refine lv_aload_nN hx hb dX11_provedShare_21 rfl (lv_at hl 0 rfl) ?_
                                                                                                                                  refine lv_ifnullN (tgt := 36) hx hb dX11_provedShare_22 (by decide) ?_
                                                                                                                                  refine lv_iconst (v := 0) hx hb dX11_provedShare_36 (by decide) ?_
                                                                                                                                  refine lv_iadd hx hb dX11_provedShare_37 ?_
                                                                                                                                  refine lv_topi (fun x_255 e_255 => ?_)
                                                                                                                                  obtain rfl : x_255 = 0 := e_255.trans (by decide)
                                                                                                                                  refine lv_istore_n (lv' := [(1, .int 0), (3, .null), (2, .int 63), (0, .ref (h 0))]) hx hb dX11_provedShare_38 rfl hl (by decide) rfl (fun ls hl => ?_)
                                                                                                                                  refine lv_iinc (v := 64) (lv' := [(2, .int 64), (1, .int 0), (3, .null), (0, .ref (h 0))]) hx hb dX11_provedShare_39 hl (k := 2) rfl (by decide) (by decide) rfl (fun ls hl => ?_)
                                                                                                                                  refine lv_goto (tgt := 4) hx hb dX11_provedShare_42 (by decide) ?_
                                                                                                                                  refine lv_iload_n hx hb dX11_provedShare_4 rfl (lv_at hl 0 rfl) ?_
                                                                                                                                  refine lv_bipush (v := 100) hx hb dX11_provedShare_5 (by decide) ?_
                                                                                                                                  refine lv_icmp_ge (tgt := 45) hx hb dX11_provedShare_7 (by decide) (fun c_257 => ?_) (fun c_257 => ?_)
                                                                                                                                  · skip
                                                                                                                                    exact absurd c_257 (by decide)
                                                                                                                                  · skip
                                                                                                                                    refine lv_aload_n hx hb dX11_provedShare_10 rfl (lv_at hl 3 rfl) ?_
                                                                                                                                    refine va_get (D := D) (ci := 11) (v := .ref (h 1)) (C := RX11) (T := TX11) (N := 15) hx hb ht zinX11 hown hK hP 0 rfl rfl 0 (by decide) (ht _ zw_353) (fun _ h9 => h9) rfl dX11_provedShare_11 ?_
                                                                                                                                    refine va_get (D := D) (ci := 8) (v := .ref (h 4)) (C := RX8) (T := TX8) (N := 11) hx hb ht zinX8 hown hK hP 1 rfl rfl 3 (by decide) (ht _ zw_470) (fun _ h9 => h9) rfl dX11_provedShare_14 ?_
                                                                                                                                    refine lv_iload_n hx hb dX11_provedShare_17 rfl (lv_at hl 0 rfl) ?_
                                                                                                                                    refine va_aldq hx hb hK hP 2 0 rfl rfl (vp_in_iff.mpr (by decide)) dX11_provedShare_18 ?_
                                                                                                                                    refine W.eq (g2 := F0 m 19 ls (.null :: [])) rfl ?_
                                                                                                                                    refine lv_astore_nN (lv' := [(3, .null), (2, .int 64), (1, .int 0), (0, .ref (h 0))]) hx hb dX11_provedShare_19 rfl hl (by decide) rfl (fun ls hl => ?_)
                                                                                                                                    refine lv_iload_n hx hb dX11_provedShare_20 rfl (lv_at hl 2 rfl) ?_
                                                                                                                                    refine lv_aload_nN hx hb dX11_provedShare_21 rfl (lv_at hl 0 rfl) ?_
                                                                                                                                    refine lv_ifnullN (tgt := 36) hx hb dX11_provedShare_22 (by decide) ?_
                                                                                                                                    refine lv_iconst (v := 0) hx hb dX11_provedShare_36 (by decide) ?_
                                                                                                                                    refine lv_iadd hx hb dX11_provedShare_37 ?_
                                                                                                                                    refine lv_topi (fun x_259 e_259 => ?_)
                                                                                                                                    obtain rfl : x_259 = 0 := e_259.trans (by decide)
                                                                                                                                    refine lv_istore_n (lv' := [(1, .int 0), (3, .null), (2, .int 64), (0, .ref (h 0))]) hx hb dX11_provedShare_38 rfl hl (by decide) rfl (fun ls hl => ?_)
                                                                                                                                    refine lv_iinc (v := 65) (lv' := [(2, .int 65), (1, .int 0), (3, .null), (0, .ref (h 0))]) hx hb dX11_provedShare_39 hl (k := 2) rfl (by decide) (by decide) rfl (fun ls hl => ?_)
                                                                                                                                    refine lv_goto (tgt := 4) hx hb dX11_provedShare_42 (by decide) ?_
                                                                                                                                    refine lv_iload_n hx hb dX11_provedShare_4 rfl (lv_at hl 0 rfl) ?_
                                                                                                                                    refine lv_bipush (v := 100) hx hb dX11_provedShare_5 (by decide) ?_
                                                                                                                                    refine lv_icmp_ge (tgt := 45) hx hb dX11_provedShare_7 (by decide) (fun c_261 => ?_) (fun c_261 => ?_)
                                                                                                                                    · skip
                                                                                                                                      exact absurd c_261 (by decide)
                                                                                                                                    · skip
                                                                                                                                      refine lv_aload_n hx hb dX11_provedShare_10 rfl (lv_at hl 3 rfl) ?_
                                                                                                                                      refine va_get (D := D) (ci := 11) (v := .ref (h 1)) (C := RX11) (T := TX11) (N := 15) hx hb ht zinX11 hown hK hP 0 rfl rfl 0 (by decide) (ht _ zw_353) (fun _ h9 => h9) rfl dX11_provedShare_11 ?_
                                                                                                                                      refine va_get (D := D) (ci := 8) (v := .ref (h 4)) (C := RX8) (T := TX8) (N := 11) hx hb ht zinX8 hown hK hP 1 rfl rfl 3 (by decide) (ht _ zw_470) (fun _ h9 => h9) rfl dX11_provedShare_14 ?_
                                                                                                                                      refine lv_iload_n hx hb dX11_provedShare_17 rfl (lv_at hl 0 rfl) ?_
                                                                                                                                      refine va_aldq hx hb hK hP 2 0 rfl rfl (vp_in_iff.mpr (by decide)) dX11_provedShare_18 ?_
                                                                                                                                      refine W.eq (g2 := F0 m 19 ls (.null :: [])) rfl ?_
                                                                                                                                      refine lv_astore_nN (lv' := [(3, .null), (2, .int 65), (1, .int 0), (0, .ref (h 0))]) hx hb dX11_provedShare_19 rfl hl (by decide) rfl (fun ls hl => ?_)
                                                                                                                                      refine lv_iload_n hx hb dX11_provedShare_20 rfl (lv_at hl 2 rfl) ?_
                                                                                                                                      refine lv_aload_nN hx hb dX11_provedShare_21 rfl (lv_at hl 0 rfl) ?_
                                                                                                                                      refine lv_ifnullN (tgt := 36) hx hb dX11_provedShare_22 (by decide) ?_
                                                                                                                                      refine lv_iconst (v := 0) hx hb dX11_provedShare_36 (by decide) ?_
                                                                                                                                      refine lv_iadd hx hb dX11_provedShare_37 ?_
                                                                                                                                      refine lv_topi (fun x_263 e_263 => ?_)
                                                                                                                                      obtain rfl : x_263 = 0 := e_263.trans (by decide)
                                                                                                                                      refine lv_istore_n (lv' := [(1, .int 0), (3, .null), (2, .int 65), (0, .ref (h 0))]) hx hb dX11_provedShare_38 rfl hl (by decide) rfl (fun ls hl => ?_)
                                                                                                                                      refine lv_iinc (v := 66) (lv' := [(2, .int 66), (1, .int 0), (3, .null), (0, .ref (h 0))]) hx hb dX11_provedShare_39 hl (k := 2) rfl (by decide) (by decide) rfl (fun ls hl => ?_)
                                                                                                                                      refine lv_goto (tgt := 4) hx hb dX11_provedShare_42 (by decide) ?_
                                                                                                                                      refine lv_iload_n hx hb dX11_provedShare_4 rfl (lv_at hl 0 rfl) ?_
                                                                                                                                      refine lv_bipush (v := 100) hx hb dX11_provedShare_5 (by decide) ?_
                                                                                                                                      refine lv_icmp_ge (tgt := 45) hx hb dX11_provedShare_7 (by decide) (fun c_265 => ?_) (fun c_265 => ?_)
                                                                                                                                      · skip
                                                                                                                                        exact absurd c_265 (by decide)
                                                                                                                                      · skip
                                                                                                                                        refine lv_aload_n hx hb dX11_provedShare_10 rfl (lv_at hl 3 rfl) ?_
                                                                                                                                        refine va_get (D := D) (ci := 11) (v := .ref (h 1)) (C := RX11) (T := TX11) (N := 15) hx hb ht zinX11 hown hK hP 0 rfl rfl 0 (by decide) (ht _ zw_353) (fun _ h9 => h9) rfl dX11_provedShare_11 ?_
                                                                                                                                        refine va_get (D := D) (ci := 8) (v := .ref (h 4)) (C := RX8) (T := TX8) (N := 11) hx hb ht zinX8 hown hK hP 1 rfl rfl 3 (by decide) (ht _ zw_470) (fun _ h9 => h9) rfl dX11_provedShare_14 ?_
                                                                                                                                        refine lv_iload_n hx hb dX11_provedShare_17 rfl (lv_at hl 0 rfl) ?_
                                                                                                                                        refine va_aldq hx hb hK hP 2 0 rfl rfl (vp_in_iff.mpr (by decide)) dX11_provedShare_18 ?_
                                                                                                                                        refine W.eq (g2 := F0 m 19 ls (.null :: [])) rfl ?_
                                                                                                                                        refine lv_astore_nN (lv' := [(3, .null), (2, .int 66), (1, .int 0), (0, .ref (h 0))]) hx hb dX11_provedShare_19 rfl hl (by decide) rfl (fun ls hl => ?_)
                                                                                                                                        refine lv_iload_n hx hb dX11_provedShare_20 rfl (lv_at hl 2 rfl) ?_
                                                                                                                                        refine lv_aload_nN hx hb dX11_provedShare_21 rfl (lv_at hl 0 rfl) ?_
                                                                                                                                        refine lv_ifnullN (tgt := 36) hx hb dX11_provedShare_22 (by decide) ?_
                                                                                                                                        refine lv_iconst (v := 0) hx hb dX11_provedShare_36 (by decide) ?_
                                                                                                                                        refine lv_iadd hx hb dX11_provedShare_37 ?_
                                                                                                                                        refine lv_topi (fun x_267 e_267 => ?_)
                                                                                                                                        obtain rfl : x_267 = 0 := e_267.trans (by decide)
                                                                                                                                        refine lv_istore_n (lv' := [(1, .int 0), (3, .null), (2, .int 66), (0, .ref (h 0))]) hx hb dX11_provedShare_38 rfl hl (by decide) rfl (fun ls hl => ?_)
                                                                                                                                        refine lv_iinc (v := 67) (lv' := [(2, .int 67), (1, .int 0), (3, .null), (0, .ref (h 0))]) hx hb dX11_provedShare_39 hl (k := 2) rfl (by decide) (by decide) rfl (fun ls hl => ?_)
                                                                                                                                        refine lv_goto (tgt := 4) hx hb dX11_provedShare_42 (by decide) ?_
                                                                                                                                        refine lv_iload_n hx hb dX11_provedShare_4 rfl (lv_at hl 0 rfl) ?_
                                                                                                                                        refine lv_bipush (v := 100) hx hb dX11_provedShare_5 (by decide) ?_
                                                                                                                                        refine lv_icmp_ge (tgt := 45) hx hb dX11_provedShare_7 (by decide) (fun c_269 => ?_) (fun c_269 => ?_)
                                                                                                                                        · skip
                                                                                                                                          exact absurd c_269 (by decide)
                                                                                                                                        · skip
                                                                                                                                          refine lv_aload_n hx hb dX11_provedShare_10 rfl (lv_at hl 3 rfl) ?_
                                                                                                                                          refine va_get (D := D) (ci := 11) (v := .ref (h 1)) (C := RX11) (T := TX11) (N := 15) hx hb ht zinX11 hown hK hP 0 rfl rfl 0 (by decide) (ht _ zw_353) (fun _ h9 => h9) rfl dX11_provedShare_11 ?_
                                                                                                                                          refine va_get (D := D) (ci := 8) (v := .ref (h 4)) (C := RX8) (T := TX8) (N := 11) hx hb ht zinX8 hown hK hP 1 rfl rfl 3 (by decide) (ht _ zw_470) (fun _ h9 => h9) rfl dX11_provedShare_14 ?_
                                                                                                                                          refine lv_iload_n hx hb dX11_provedShare_17 rfl (lv_at hl 0 rfl) ?_
                                                                                                                                          refine va_aldq hx hb hK hP 2 0 rfl rfl (vp_in_iff.mpr (by decide)) dX11_provedShare_18 ?_
                                                                                                                                          refine W.eq (g2 := F0 m 19 ls (.null :: [])) rfl ?_
                                                                                                                                          refine lv_astore_nN (lv' := [(3, .null), (2, .int 67), (1, .int 0), (0, .ref (h 0))]) hx hb dX11_provedShare_19 rfl hl (by decide) rfl (fun ls hl => ?_)
                                                                                                                                          refine lv_iload_n hx hb dX11_provedShare_20 rfl (lv_at hl 2 rfl) ?_
                                                                                                                                          refine lv_aload_nN hx hb dX11_provedShare_21 rfl (lv_at hl 0 rfl) ?_
                                                                                                                                          refine lv_ifnullN (tgt := 36) hx hb dX11_provedShare_22 (by decide) ?_
                                                                                                                                          refine lv_iconst (v := 0) hx hb dX11_provedShare_36 (by decide) ?_
                                                                                                                                          refine lv_iadd hx hb dX11_provedShare_37 ?_
                                                                                                                                          refine lv_topi (fun x_271 e_271 => ?_)
                                                                                                                                          obtain rfl : x_271 = 0 := e_271.trans (by decide)
                                                                                                                                          refine lv_istore_n (lv' := [(1, .int 0), (3, .null), (2, .int 67), (0, .ref (h 0))]) hx hb dX11_provedShare_38 rfl hl (by decide) rfl (fun ls hl => ?_)
                                                                                                                                          refine lv_iinc (v := 68) (lv' := [(2, .int 68), (1, .int 0), (3, .null), (0, .ref (h 0))]) hx hb dX11_provedShare_39 hl (k := 2) rfl (by decide) (by decide) rfl (fun ls hl => ?_)
                                                                                                                                          refine lv_goto (tgt := 4) hx hb dX11_provedShare_42 (by decide) ?_
                                                                                                                                          refine lv_iload_n hx hb dX11_provedShare_4 rfl (lv_at hl 0 rfl) ?_
                                                                                                                                          refine lv_bipush (v := 100) hx hb dX11_provedShare_5 (by decide) ?_
                                                                                                                                          refine lv_icmp_ge (tgt := 45) hx hb dX11_provedShare_7 (by decide) (fun c_273 => ?_) (fun c_273 => ?_)
                                                                                                                                          · skip
                                                                                                                                            exact absurd c_273 (by decide)
                                                                                                                                          · skip
                                                                                                                                            refine lv_aload_n hx hb dX11_provedShare_10 rfl (lv_at hl 3 rfl) ?_
                                                                                                                                            refine va_get (D := D) (ci := 11) (v := .ref (h 1)) (C := RX11) (T := TX11) (N := 15) hx hb ht zinX11 hown hK hP 0 rfl rfl 0 (by decide) (ht _ zw_353) (fun _ h9 => h9) rfl dX11_provedShare_11 ?_
                                                                                                                                            refine va_get (D := D) (ci := 8) (v := .ref (h 4)) (C := RX8) (T := TX8) (N := 11) hx hb ht zinX8 hown hK hP 1 rfl rfl 3 (by decide) (ht _ zw_470) (fun _ h9 => h9) rfl dX11_provedShare_14 ?_
                                                                                                                                            refine lv_iload_n hx hb dX11_provedShare_17 rfl (lv_at hl 0 rfl) ?_
                                                                                                                                            refine va_aldq hx hb hK hP 2 0 rfl rfl (vp_in_iff.mpr (by decide)) dX11_provedShare_18 ?_
                                                                                                                                            refine W.eq (g2 := F0 m 19 ls (.null :: [])) rfl ?_
                                                                                                                                            refine lv_astore_nN (lv' := [(3, .null), (2, .int 68), (1, .int 0), (0, .ref (h 0))]) hx hb dX11_provedShare_19 rfl hl (by decide) rfl (fun ls hl => ?_)
                                                                                                                                            refine lv_iload_n hx hb dX11_provedShare_20 rfl (lv_at hl 2 rfl) ?_
                                                                                                                                            refine lv_aload_nN hx hb dX11_provedShare_21 rfl (lv_at hl 0 rfl) ?_
                                                                                                                                            refine lv_ifnullN (tgt := 36) hx hb dX11_provedShare_22 (by decide) ?_
                                                                                                                                            refine lv_iconst (v := 0) hx hb dX11_provedShare_36 (by decide) ?_
                                                                                                                                            refine lv_iadd hx hb dX11_provedShare_37 ?_
                                                                                                                                            refine lv_topi (fun x_275 e_275 => ?_)
                                                                                                                                            obtain rfl : x_275 = 0 := e_275.trans (by decide)
                                                                                                                                            refine lv_istore_n (lv' := [(1, .int 0), (3, .null), (2, .int 68), (0, .ref (h 0))]) hx hb dX11_provedShare_38 rfl hl (by decide) rfl (fun ls hl => ?_)
                                                                                                                                            refine lv_iinc (v := 69) (lv' := [(2, .int 69), (1, .int 0), (3, .null), (0, .ref (h 0))]) hx hb dX11_provedShare_39 hl (k := 2) rfl (by decide) (by decide) rfl (fun ls hl => ?_)
                                                                                                                                            refine lv_goto (tgt := 4) hx hb dX11_provedShare_42 (by decide) ?_
                                                                                                                                            refine lv_iload_n hx hb dX11_provedShare_4 rfl (lv_at hl 0 rfl) ?_
                                                                                                                                            refine lv_bipush (v := 100) hx hb dX11_provedShare_5 (by decide) ?_
                                                                                                                                            refine lv_icmp_ge (tgt := 45) hx hb dX11_provedShare_7 (by decide) (fun c_277 => ?_) (fun c_277 => ?_)
                                                                                                                                            · skip
                                                                                                                                              exact absurd c_277 (by decide)
                                                                                                                                            · skip
                                                                                                                                              refine lv_aload_n hx hb dX11_provedShare_10 rfl (lv_at hl 3 rfl) ?_
                                                                                                                                              refine va_get (D := D) (ci := 11) (v := .ref (h 1)) (C := RX11) (T := TX11) (N := 15) hx hb ht zinX11 hown hK hP 0 rfl rfl 0 (by decide) (ht _ zw_353) (fun _ h9 => h9) rfl dX11_provedShare_11 ?_
                                                                                                                                              refine va_get (D := D) (ci := 8) (v := .ref (h 4)) (C := RX8) (T := TX8) (N := 11) hx hb ht zinX8 hown hK hP 1 rfl rfl 3 (by decide) (ht _ zw_470) (fun _ h9 => h9) rfl dX11_provedShare_14 ?_
                                                                                                                                              refine lv_iload_n hx hb dX11_provedShare_17 rfl (lv_at hl 0 rfl) ?_
                                                                                                                                              refine va_aldq hx hb hK hP 2 0 rfl rfl (vp_in_iff.mpr (by decide)) dX11_provedShare_18 ?_
                                                                                                                                              refine W.eq (g2 := F0 m 19 ls (.null :: [])) rfl ?_
                                                                                                                                              refine lv_astore_nN (lv' := [(3, .null), (2, .int 69), (1, .int 0), (0, .ref (h 0))]) hx hb dX11_provedShare_19 rfl hl (by decide) rfl (fun ls hl => ?_)
                                                                                                                                              refine lv_iload_n hx hb dX11_provedShare_20 rfl (lv_at hl 2 rfl) ?_
                                                                                                                                              refine lv_aload_nN hx hb dX11_provedShare_21 rfl (lv_at hl 0 rfl) ?_
                                                                                                                                              refine lv_ifnullN (tgt := 36) hx hb dX11_provedShare_22 (by decide) ?_
                                                                                                                                              refine lv_iconst (v := 0) hx hb dX11_provedShare_36 (by decide) ?_
                                                                                                                                              refine lv_iadd hx hb dX11_provedShare_37 ?_
                                                                                                                                              refine lv_topi (fun x_279 e_279 => ?_)
                                                                                                                                              obtain rfl : x_279 = 0 := e_279.trans (by decide)
                                                                                                                                              refine lv_istore_n (lv' := [(1, .int 0), (3, .null), (2, .int 69), (0, .ref (h 0))]) hx hb dX11_provedShare_38 rfl hl (by decide) rfl (fun ls hl => ?_)
                                                                                                                                              refine lv_iinc (v := 70) (lv' := [(2, .int 70), (1, .int 0), (3, .null), (0, .ref (h 0))]) hx hb dX11_provedShare_39 hl (k := 2) rfl (by decide) (by decide) rfl (fun ls hl => ?_)
                                                                                                                                              refine lv_goto (tgt := 4) hx hb dX11_provedShare_42 (by decide) ?_
                                                                                                                                              refine lv_iload_n hx hb dX11_provedShare_4 rfl (lv_at hl 0 rfl) ?_
                                                                                                                                              refine lv_bipush (v := 100) hx hb dX11_provedShare_5 (by decide) ?_
                                                                                                                                              refine lv_icmp_ge (tgt := 45) hx hb dX11_provedShare_7 (by decide) (fun c_281 => ?_) (fun c_281 => ?_)
                                                                                                                                              · skip
                                                                                                                                                exact absurd c_281 (by decide)
                                                                                                                                              · skip
                                                                                                                                                refine lv_aload_n hx hb dX11_provedShare_10 rfl (lv_at hl 3 rfl) ?_
                                                                                                                                                refine va_get (D := D) (ci := 11) (v := .ref (h 1)) (C := RX11) (T := TX11) (N := 15) hx hb ht zinX11 hown hK hP 0 rfl rfl 0 (by decide) (ht _ zw_353) (fun _ h9 => h9) rfl dX11_provedShare_11 ?_
                                                                                                                                                refine va_get (D := D) (ci := 8) (v := .ref (h 4)) (C := RX8) (T := TX8) (N := 11) hx hb ht zinX8 hown hK hP 1 rfl rfl 3 (by decide) (ht _ zw_470) (fun _ h9 => h9) rfl dX11_provedShare_14 ?_
                                                                                                                                                refine lv_iload_n hx hb dX11_provedShare_17 rfl (lv_at hl 0 rfl) ?_
                                                                                                                                                refine va_aldq hx hb hK hP 2 0 rfl rfl (vp_in_iff.mpr (by decide)) dX11_provedShare_18 ?_
                                                                                                                                                refine W.eq (g2 := F0 m 19 ls (.null :: [])) rfl ?_
                                                                                                                                                refine lv_astore_nN (lv' := [(3, .null), (2, .int 70), (1, .int 0), (0, .ref (h 0))]) hx hb dX11_provedShare_19 rfl hl (by decide) rfl (fun ls hl => ?_)
                                                                                                                                                refine lv_iload_n hx hb dX11_provedShare_20 rfl (lv_at hl 2 rfl) ?_
                                                                                                                                                refine lv_aload_nN hx hb dX11_provedShare_21 rfl (lv_at hl 0 rfl) ?_
                                                                                                                                                refine lv_ifnullN (tgt := 36) hx hb dX11_provedShare_22 (by decide) ?_
                                                                                                                                                refine lv_iconst (v := 0) hx hb dX11_provedShare_36 (by decide) ?_
                                                                                                                                                refine lv_iadd hx hb dX11_provedShare_37 ?_
                                                                                                                                                refine lv_topi (fun x_283 e_283 => ?_)
                                                                                                                                                obtain rfl : x_283 = 0 := e_283.trans (by decide)
                                                                                                                                                refine lv_istore_n (lv' := [(1, .int 0), (3, .null), (2, .int 70), (0, .ref (h 0))]) hx hb dX11_provedShare_38 rfl hl (by decide) rfl (fun ls hl => ?_)
                                                                                                                                                refine lv_iinc (v := 71) (lv' := [(2, .int 71), (1, .int 0), (3, .null), (0, .ref (h 0))]) hx hb dX11_provedShare_39 hl (k := 2) rfl (by decide) (by decide) rfl (fun ls hl => ?_)
                                                                                                                                                refine lv_goto (tgt := 4) hx hb dX11_provedShare_42 (by decide) ?_
                                                                                                                                                refine lv_iload_n hx hb dX11_provedShare_4 rfl (lv_at hl 0 rfl) ?_
                                                                                                                                                refine lv_bipush (v := 100) hx hb dX11_provedShare_5 (by decide) ?_
                                                                                                                                                refine lv_icmp_ge (tgt := 45) hx hb dX11_provedShare_7 (by decide) (fun c_285 => ?_) (fun c_285 => ?_)
                                                                                                                                                · skip
                                                                                                                                                  exact absurd c_285 (by decide)
                                                                                                                                                · skip
                                                                                                                                                  refine lv_aload_n hx hb dX11_provedShare_10 rfl (lv_at hl 3 rfl) ?_
                                                                                                                                                  refine va_get (D := D) (ci := 11) (v := .ref (h 1)) (C := RX11) (T := TX11) (N := 15) hx hb ht zinX11 hown hK hP 0 rfl rfl 0 (by decide) (ht _ zw_353) (fun _ h9 => h9) rfl dX11_provedShare_11 ?_
                                                                                                                                                  refine va_get (D := D) (ci := 8) (v := .ref (h 4)) (C := RX8) (T := TX8) (N := 11) hx hb ht zinX8 hown hK hP 1 rfl rfl 3 (by decide) (ht _ zw_470) (fun _ h9 => h9) rfl dX11_provedShare_14 ?_
                                                                                                                                                  refine lv_iload_n hx hb dX11_provedShare_17 rfl (lv_at hl 0 rfl) ?_
                                                                                                                                                  refine va_aldq hx hb hK hP 2 0 rfl rfl (vp_in_iff.mpr (by decide)) dX11_provedShare_18 ?_
                                                                                                                                                  refine W.eq (g2 := F0 m 19 ls (.null :: [])) rfl ?_
                                                                                                                                                  refine lv_astore_nN (lv' := [(3, .null), (2, .int 71), (1, .int 0), (0, .ref (h 0))]) hx hb dX11_provedShare_19 rfl hl (by decide) rfl (fun ls hl => ?_)
                                                                                                                                                  refine lv_iload_n hx hb dX11_provedShare_20 rfl (lv_at hl 2 rfl) ?_
                                                                                                                                                  refine lv_aload_nN hx hb dX11_provedShare_21 rfl (lv_at hl 0 rfl) ?_
                                                                                                                                                  refine lv_ifnullN (tgt := 36) hx hb dX11_provedShare_22 (by decide) ?_
                                                                                                                                                  refine lv_iconst (v := 0) hx hb dX11_provedShare_36 (by decide) ?_
                                                                                                                                                  refine lv_iadd hx hb dX11_provedShare_37 ?_
                                                                                                                                                  refine lv_topi (fun x_287 e_287 => ?_)
                                                                                                                                                  obtain rfl : x_287 = 0 := e_287.trans (by decide)
                                                                                                                                                  refine lv_istore_n (lv' := [(1, .int 0), (3, .null), (2, .int 71), (0, .ref (h 0))]) hx hb dX11_provedShare_38 rfl hl (by decide) rfl (fun ls hl => ?_)
                                                                                                                                                  refine lv_iinc (v := 72) (lv' := [(2, .int 72), (1, .int 0), (3, .null), (0, .ref (h 0))]) hx hb dX11_provedShare_39 hl (k := 2) rfl (by decide) (by decide) rfl (fun ls hl => ?_)
                                                                                                                                                  refine lv_goto (tgt := 4) hx hb dX11_provedShare_42 (by decide) ?_
                                                                                                                                                  refine lv_iload_n hx hb dX11_provedShare_4 rfl (lv_at hl 0 rfl) ?_
                                                                                                                                                  refine lv_bipush (v := 100) hx hb dX11_provedShare_5 (by decide) ?_
                                                                                                                                                  refine lv_icmp_ge (tgt := 45) hx hb dX11_provedShare_7 (by decide) (fun c_289 => ?_) (fun c_289 => ?_)
                                                                                                                                                  · skip
                                                                                                                                                    exact absurd c_289 (by decide)
                                                                                                                                                  · skip
                                                                                                                                                    refine lv_aload_n hx hb dX11_provedShare_10 rfl (lv_at hl 3 rfl) ?_
                                                                                                                                                    refine va_get (D := D) (ci := 11) (v := .ref (h 1)) (C := RX11) (T := TX11) (N := 15) hx hb ht zinX11 hown hK hP 0 rfl rfl 0 (by decide) (ht _ zw_353) (fun _ h9 => h9) rfl dX11_provedShare_11 ?_
                                                                                                                                                    refine va_get (D := D) (ci := 8) (v := .ref (h 4)) (C := RX8) (T := TX8) (N := 11) hx hb ht zinX8 hown hK hP 1 rfl rfl 3 (by decide) (ht _ zw_470) (fun _ h9 => h9) rfl dX11_provedShare_14 ?_
                                                                                                                                                    refine lv_iload_n hx hb dX11_provedShare_17 rfl (lv_at hl 0 rfl) ?_
                                                                                                                                                    refine va_aldq hx hb hK hP 2 0 rfl rfl (vp_in_iff.mpr (by decide)) dX11_provedShare_18 ?_
                                                                                                                                                    refine W.eq (g2 := F0 m 19 ls (.null :: [])) rfl ?_
                                                                                                                                                    refine lv_astore_nN (lv' := [(3, .null), (2, .int 72), (1, .int 0), (0, .ref (h 0))]) hx hb dX11_provedShare_19 rfl hl (by decide) rfl (fun ls hl => ?_)
                                                                                                                                                    refine lv_iload_n hx hb dX11_provedShare_20 rfl (lv_at hl 2 rfl) ?_
                                                                                                                                                    refine lv_aload_nN hx hb dX11_provedShare_21 rfl (lv_at hl 0 rfl) ?_
                                                                                                                                                    refine lv_ifnullN (tgt := 36) hx hb dX11_provedShare_22 (by decide) ?_
                                                                                                                                                    refine lv_iconst (v := 0) hx hb dX11_provedShare_36 (by decide) ?_
                                                                                                                                                    refine lv_iadd hx hb dX11_provedShare_37 ?_
                                                                                                                                                    refine lv_topi (fun x_291 e_291 => ?_)
                                                                                                                                                    obtain rfl : x_291 = 0 := e_291.trans (by decide)
                                                                                                                                                    refine lv_istore_n (lv' := [(1, .int 0), (3, .null), (2, .int 72), (0, .ref (h 0))]) hx hb dX11_provedShare_38 rfl hl (by decide) rfl (fun ls hl => ?_)
                                                                                                                                                    refine lv_iinc (v := 73) (lv' := [(2, .int 73), (1, .int 0), (3, .null), (0, .ref (h 0))]) hx hb dX11_provedShare_39 hl (k := 2) rfl (by decide) (by decide) rfl (fun ls hl => ?_)
                                                                                                                                                    refine lv_goto (tgt := 4) hx hb dX11_provedShare_42 (by decide) ?_
                                                                                                                                                    refine lv_iload_n hx hb dX11_provedShare_4 rfl (lv_at hl 0 rfl) ?_
                                                                                                                                                    refine lv_bipush (v := 100) hx hb dX11_provedShare_5 (by decide) ?_
                                                                                                                                                    refine lv_icmp_ge (tgt := 45) hx hb dX11_provedShare_7 (by decide) (fun c_293 => ?_) (fun c_293 => ?_)
                                                                                                                                                    · skip
                                                                                                                                                      exact absurd c_293 (by decide)
                                                                                                                                                    · skip
                                                                                                                                                      refine lv_aload_n hx hb dX11_provedShare_10 rfl (lv_at hl 3 rfl) ?_
                                                                                                                                                      refine va_get (D := D) (ci := 11) (v := .ref (h 1)) (C := RX11) (T := TX11) (N := 15) hx hb ht zinX11 hown hK hP 0 rfl rfl 0 (by decide) (ht _ zw_353) (fun _ h9 => h9) rfl dX11_provedShare_11 ?_
                                                                                                                                                      refine va_get (D := D) (ci := 8) (v := .ref (h 4)) (C := RX8) (T := TX8) (N := 11) hx hb ht zinX8 hown hK hP 1 rfl rfl 3 (by decide) (ht _ zw_470) (fun _ h9 => h9) rfl dX11_provedShare_14 ?_
                                                                                                                                                      refine lv_iload_n hx hb dX11_provedShare_17 rfl (lv_at hl 0 rfl) ?_
                                                                                                                                                      refine va_aldq hx hb hK hP 2 0 rfl rfl (vp_in_iff.mpr (by decide)) dX11_provedShare_18 ?_
                                                                                                                                                      refine W.eq (g2 := F0 m 19 ls (.null :: [])) rfl ?_
                                                                                                                                                      refine lv_astore_nN (lv' := [(3, .null), (2, .int 73), (1, .int 0), (0, .ref (h 0))]) hx hb dX11_provedShare_19 rfl hl (by decide) rfl (fun ls hl => ?_)
                                                                                                                                                      refine lv_iload_n hx hb dX11_provedShare_20 rfl (lv_at hl 2 rfl) ?_
                                                                                                                                                      refine lv_aload_nN hx hb dX11_provedShare_21 rfl (lv_at hl 0 rfl) ?_
                                                                                                                                                      refine lv_ifnullN (tgt := 36) hx hb dX11_provedShare_22 (by decide) ?_
                                                                                                                                                      refine lv_iconst (v := 0) hx hb dX11_provedShare_36 (by decide) ?_
                                                                                                                                                      refine lv_iadd hx hb dX11_provedShare_37 ?_
                                                                                                                                                      refine lv_topi (fun x_295 e_295 => ?_)
                                                                                                                                                      obtain rfl : x_295 = 0 := e_295.trans (by decide)
                                                                                                                                                      refine lv_istore_n (lv' := [(1, .int 0), (3, .null), (2, .int 73), (0, .ref (h 0))]) hx hb dX11_provedShare_38 rfl hl (by decide) rfl (fun ls hl => ?_)
                                                                                                                                                      refine lv_iinc (v := 74) (lv' := [(2, .int 74), (1, .int 0), (3, .null), (0, .ref (h 0))]) hx hb dX11_provedShare_39 hl (k := 2) rfl (by decide) (by decide) rfl (fun ls hl => ?_)
                                                                                                                                                      refine lv_goto (tgt := 4) hx hb dX11_provedShare_42 (by decide) ?_
                                                                                                                                                      refine lv_iload_n hx hb dX11_provedShare_4 rfl (lv_at hl 0 rfl) ?_
                                                                                                                                                      refine lv_bipush (v := 100) hx hb dX11_provedShare_5 (by decide) ?_
                                                                                                                                                      refine lv_icmp_ge (tgt := 45) hx hb dX11_provedShare_7 (by decide) (fun c_297 => ?_) (fun c_297 => ?_)
                                                                                                                                                      · skip
                                                                                                                                                        exact absurd c_297 (by decide)
                                                                                                                                                      · skip
                                                                                                                                                        refine lv_aload_n hx hb dX11_provedShare_10 rfl (lv_at hl 3 rfl) ?_
                                                                                                                                                        refine va_get (D := D) (ci := 11) (v := .ref (h 1)) (C := RX11) (T := TX11) (N := 15) hx hb ht zinX11 hown hK hP 0 rfl rfl 0 (by decide) (ht _ zw_353) (fun _ h9 => h9) rfl dX11_provedShare_11 ?_
                                                                                                                                                        refine va_get (D := D) (ci := 8) (v := .ref (h 4)) (C := RX8) (T := TX8) (N := 11) hx hb ht zinX8 hown hK hP 1 rfl rfl 3 (by decide) (ht _ zw_470) (fun _ h9 => h9) rfl dX11_provedShare_14 ?_
                                                                                                                                                        refine lv_iload_n hx hb dX11_provedShare_17 rfl (lv_at hl 0 rfl) ?_
                                                                                                                                                        refine va_aldq hx hb hK hP 2 0 rfl rfl (vp_in_iff.mpr (by decide)) dX11_provedShare_18 ?_
                                                                                                                                                        refine W.eq (g2 := F0 m 19 ls (.null :: [])) rfl ?_
                                                                                                                                                        refine lv_astore_nN (lv' := [(3, .null), (2, .int 74), (1, .int 0), (0, .ref (h 0))]) hx hb dX11_provedShare_19 rfl hl (by decide) rfl (fun ls hl => ?_)
                                                                                                                                                        refine lv_iload_n hx hb dX11_provedShare_20 rfl (lv_at hl 2 rfl) ?_
                                                                                                                                                        refine lv_aload_nN hx hb dX11_provedShare_21 rfl (lv_at hl 0 rfl) ?_
                                                                                                                                                        refine lv_ifnullN (tgt := 36) hx hb dX11_provedShare_22 (by decide) ?_
                                                                                                                                                        refine lv_iconst (v := 0) hx hb dX11_provedShare_36 (by decide) ?_
                                                                                                                                                        refine lv_iadd hx hb dX11_provedShare_37 ?_
                                                                                                                                                        refine lv_topi (fun x_299 e_299 => ?_)
                                                                                                                                                        obtain rfl : x_299 = 0 := e_299.trans (by decide)
                                                                                                                                                        refine lv_istore_n (lv' := [(1, .int 0), (3, .null), (2, .int 74), (0, .ref (h 0))]) hx hb dX11_provedShare_38 rfl hl (by decide) rfl (fun ls hl => ?_)
                                                                                                                                                        refine lv_iinc (v := 75) (lv' := [(2, .int 75), (1, .int 0), (3, .null), (0, .ref (h 0))]) hx hb dX11_provedShare_39 hl (k := 2) rfl (by decide) (by decide) rfl (fun ls hl => ?_)
                                                                                                                                                        refine lv_goto (tgt := 4) hx hb dX11_provedShare_42 (by decide) ?_
                                                                                                                                                        refine lv_iload_n hx hb dX11_provedShare_4 rfl (lv_at hl 0 rfl) ?_
                                                                                                                                                        refine lv_bipush (v := 100) hx hb dX11_provedShare_5 (by decide) ?_
                                                                                                                                                        refine lv_icmp_ge (tgt := 45) hx hb dX11_provedShare_7 (by decide) (fun c_301 => ?_) (fun c_301 => ?_)
                                                                                                                                                        · skip
                                                                                                                                                          exact absurd c_301 (by decide)
                                                                                                                                                        · skip
                                                                                                                                                          refine lv_aload_n hx hb dX11_provedShare_10 rfl (lv_at hl 3 rfl) ?_
                                                                                                                                                          refine va_get (D := D) (ci := 11) (v := .ref (h 1)) (C := RX11) (T := TX11) (N := 15) hx hb ht zinX11 hown hK hP 0 rfl rfl 0 (by decide) (ht _ zw_353) (fun _ h9 => h9) rfl dX11_provedShare_11 ?_
                                                                                                                                                          refine va_get (D := D) (ci := 8) (v := .ref (h 4)) (C := RX8) (T := TX8) (N := 11) hx hb ht zinX8 hown hK hP 1 rfl rfl 3 (by decide) (ht _ zw_470) (fun _ h9 => h9) rfl dX11_provedShare_14 ?_
                                                                                                                                                          refine lv_iload_n hx hb dX11_provedShare_17 rfl (lv_at hl 0 rfl) ?_
                                                                                                                                                          refine va_aldq hx hb hK hP 2 0 rfl rfl (vp_in_iff.mpr (by decide)) dX11_provedShare_18 ?_
                                                                                                                                                          refine W.eq (g2 := F0 m 19 ls (.null :: [])) rfl ?_
                                                                                                                                                          refine lv_astore_nN (lv' := [(3, .null), (2, .int 75), (1, .int 0), (0, .ref (h 0))]) hx hb dX11_provedShare_19 rfl hl (by decide) rfl (fun ls hl => ?_)
                                                                                                                                                          refine lv_iload_n hx hb dX11_provedShare_20 rfl (lv_at hl 2 rfl) ?_
                                                                                                                                                          refine lv_aload_nN hx hb dX11_provedShare_21 rfl (lv_at hl 0 rfl) ?_
                                                                                                                                                          refine lv_ifnullN (tgt := 36) hx hb dX11_provedShare_22 (by decide) ?_
                                                                                                                                                          refine lv_iconst (v := 0) hx hb dX11_provedShare_36 (by decide) ?_
                                                                                                                                                          refine lv_iadd hx hb dX11_provedShare_37 ?_
                                                                                                                                                          refine lv_topi (fun x_303 e_303 => ?_)
                                                                                                                                                          obtain rfl : x_303 = 0 := e_303.trans (by decide)
                                                                                                                                                          refine lv_istore_n (lv' := [(1, .int 0), (3, .null), (2, .int 75), (0, .ref (h 0))]) hx hb dX11_provedShare_38 rfl hl (by decide) rfl (fun ls hl => ?_)
                                                                                                                                                          refine lv_iinc (v := 76) (lv' := [(2, .int 76), (1, .int 0), (3, .null), (0, .ref (h 0))]) hx hb dX11_provedShare_39 hl (k := 2) rfl (by decide) (by decide) rfl (fun ls hl => ?_)
                                                                                                                                                          refine lv_goto (tgt := 4) hx hb dX11_provedShare_42 (by decide) ?_
                                                                                                                                                          refine lv_iload_n hx hb dX11_provedShare_4 rfl (lv_at hl 0 rfl) ?_
                                                                                                                                                          refine lv_bipush (v := 100) hx hb dX11_provedShare_5 (by decide) ?_
                                                                                                                                                          refine lv_icmp_ge (tgt := 45) hx hb dX11_provedShare_7 (by decide) (fun c_305 => ?_) (fun c_305 => ?_)
                                                                                                                                                          · skip
                                                                                                                                                            exact absurd c_305 (by decide)
                                                                                                                                                          · skip
                                                                                                                                                            refine lv_aload_n hx hb dX11_provedShare_10 rfl (lv_at hl 3 rfl) ?_
                                                                                                                                                            refine va_get (D := D) (ci := 11) (v := .ref (h 1)) (C := RX11) (T := TX11) (N := 15) hx hb ht zinX11 hown hK hP 0 rfl rfl 0 (by decide) (ht _ zw_353) (fun _ h9 => h9) rfl dX11_provedShare_11 ?_
                                                                                                                                                            refine va_get (D := D) (ci := 8) (v := .ref (h 4)) (C := RX8) (T := TX8) (N := 11) hx hb ht zinX8 hown hK hP 1 rfl rfl 3 (by decide) (ht _ zw_470) (fun _ h9 => h9) rfl dX11_provedShare_14 ?_
                                                                                                                                                            refine lv_iload_n hx hb dX11_provedShare_17 rfl (lv_at hl 0 rfl) ?_
                                                                                                                                                            refine va_aldq hx hb hK hP 2 0 rfl rfl (vp_in_iff.mpr (by decide)) dX11_provedShare_18 ?_
                                                                                                                                                            refine W.eq (g2 := F0 m 19 ls (.null :: [])) rfl ?_
                                                                                                                                                            refine lv_astore_nN (lv' := [(3, .null), (2, .int 76), (1, .int 0), (0, .ref (h 0))]) hx hb dX11_provedShare_19 rfl hl (by decide) rfl (fun ls hl => ?_)
                                                                                                                                                            refine lv_iload_n hx hb dX11_provedShare_20 rfl (lv_at hl 2 rfl) ?_
                                                                                                                                                            refine lv_aload_nN hx hb dX11_provedShare_21 rfl (lv_at hl 0 rfl) ?_
                                                                                                                                                            refine lv_ifnullN (tgt := 36) hx hb dX11_provedShare_22 (by decide) ?_
                                                                                                                                                            refine lv_iconst (v := 0) hx hb dX11_provedShare_36 (by decide) ?_
                                                                                                                                                            refine lv_iadd hx hb dX11_provedShare_37 ?_
                                                                                                                                                            refine lv_topi (fun x_307 e_307 => ?_)
                                                                                                                                                            obtain rfl : x_307 = 0 := e_307.trans (by decide)
                                                                                                                                                            refine lv_istore_n (lv' := [(1, .int 0), (3, .null), (2, .int 76), (0, .ref (h 0))]) hx hb dX11_provedShare_38 rfl hl (by decide) rfl (fun ls hl => ?_)
                                                                                                                                                            refine lv_iinc (v := 77) (lv' := [(2, .int 77), (1, .int 0), (3, .null), (0, .ref (h 0))]) hx hb dX11_provedShare_39 hl (k := 2) rfl (by decide) (by decide) rfl (fun ls hl => ?_)
                                                                                                                                                            refine lv_goto (tgt := 4) hx hb dX11_provedShare_42 (by decide) ?_
                                                                                                                                                            refine lv_iload_n hx hb dX11_provedShare_4 rfl (lv_at hl 0 rfl) ?_
                                                                                                                                                            refine lv_bipush (v := 100) hx hb dX11_provedShare_5 (by decide) ?_
                                                                                                                                                            refine lv_icmp_ge (tgt := 45) hx hb dX11_provedShare_7 (by decide) (fun c_309 => ?_) (fun c_309 => ?_)
                                                                                                                                                            · skip
                                                                                                                                                              exact absurd c_309 (by decide)
                                                                                                                                                            · skip
                                                                                                                                                              refine lv_aload_n hx hb dX11_provedShare_10 rfl (lv_at hl 3 rfl) ?_
                                                                                                                                                              refine va_get (D := D) (ci := 11) (v := .ref (h 1)) (C := RX11) (T := TX11) (N := 15) hx hb ht zinX11 hown hK hP 0 rfl rfl 0 (by decide) (ht _ zw_353) (fun _ h9 => h9) rfl dX11_provedShare_11 ?_
                                                                                                                                                              refine va_get (D := D) (ci := 8) (v := .ref (h 4)) (C := RX8) (T := TX8) (N := 11) hx hb ht zinX8 hown hK hP 1 rfl rfl 3 (by decide) (ht _ zw_470) (fun _ h9 => h9) rfl dX11_provedShare_14 ?_
                                                                                                                                                              refine lv_iload_n hx hb dX11_provedShare_17 rfl (lv_at hl 0 rfl) ?_
                                                                                                                                                              refine va_aldq hx hb hK hP 2 0 rfl rfl (vp_in_iff.mpr (by decide)) dX11_provedShare_18 ?_
                                                                                                                                                              refine W.eq (g2 := F0 m 19 ls (.null :: [])) rfl ?_
                                                                                                                                                              refine lv_astore_nN (lv' := [(3, .null), (2, .int 77), (1, .int 0), (0, .ref (h 0))]) hx hb dX11_provedShare_19 rfl hl (by decide) rfl (fun ls hl => ?_)
                                                                                                                                                              refine lv_iload_n hx hb dX11_provedShare_20 rfl (lv_at hl 2 rfl) ?_
                                                                                                                                                              refine lv_aload_nN hx hb dX11_provedShare_21 rfl (lv_at hl 0 rfl) ?_
                                                                                                                                                              refine lv_ifnullN (tgt := 36) hx hb dX11_provedShare_22 (by decide) ?_
                                                                                                                                                              refine lv_iconst (v := 0) hx hb dX11_provedShare_36 (by decide) ?_
                                                                                                                                                              refine lv_iadd hx hb dX11_provedShare_37 ?_
                                                                                                                                                              refine lv_topi (fun x_311 e_311 => ?_)
                                                                                                                                                              obtain rfl : x_311 = 0 := e_311.trans (by decide)
                                                                                                                                                              refine lv_istore_n (lv' := [(1, .int 0), (3, .null), (2, .int 77), (0, .ref (h 0))]) hx hb dX11_provedShare_38 rfl hl (by decide) rfl (fun ls hl => ?_)
                                                                                                                                                              refine lv_iinc (v := 78) (lv' := [(2, .int 78), (1, .int 0), (3, .null), (0, .ref (h 0))]) hx hb dX11_provedShare_39 hl (k := 2) rfl (by decide) (by decide) rfl (fun ls hl => ?_)
                                                                                                                                                              refine lv_goto (tgt := 4) hx hb dX11_provedShare_42 (by decide) ?_
                                                                                                                                                              refine lv_iload_n hx hb dX11_provedShare_4 rfl (lv_at hl 0 rfl) ?_
                                                                                                                                                              refine lv_bipush (v := 100) hx hb dX11_provedShare_5 (by decide) ?_
                                                                                                                                                              refine lv_icmp_ge (tgt := 45) hx hb dX11_provedShare_7 (by decide) (fun c_313 => ?_) (fun c_313 => ?_)
                                                                                                                                                              · skip
                                                                                                                                                                exact absurd c_313 (by decide)
                                                                                                                                                              · skip
                                                                                                                                                                refine lv_aload_n hx hb dX11_provedShare_10 rfl (lv_at hl 3 rfl) ?_
                                                                                                                                                                refine va_get (D := D) (ci := 11) (v := .ref (h 1)) (C := RX11) (T := TX11) (N := 15) hx hb ht zinX11 hown hK hP 0 rfl rfl 0 (by decide) (ht _ zw_353) (fun _ h9 => h9) rfl dX11_provedShare_11 ?_
                                                                                                                                                                refine va_get (D := D) (ci := 8) (v := .ref (h 4)) (C := RX8) (T := TX8) (N := 11) hx hb ht zinX8 hown hK hP 1 rfl rfl 3 (by decide) (ht _ zw_470) (fun _ h9 => h9) rfl dX11_provedShare_14 ?_
                                                                                                                                                                refine lv_iload_n hx hb dX11_provedShare_17 rfl (lv_at hl 0 rfl) ?_
                                                                                                                                                                refine va_aldq hx hb hK hP 2 0 rfl rfl (vp_in_iff.mpr (by decide)) dX11_provedShare_18 ?_
                                                                                                                                                                refine W.eq (g2 := F0 m 19 ls (.null :: [])) rfl ?_
                                                                                                                                                                refine lv_astore_nN (lv' := [(3, .null), (2, .int 78), (1, .int 0), (0, .ref (h 0))]) hx hb dX11_provedShare_19 rfl hl (by decide) rfl (fun ls hl => ?_)
                                                                                                                                                                refine lv_iload_n hx hb dX11_provedShare_20 rfl (lv_at hl 2 rfl) ?_
                                                                                                                                                                refine lv_aload_nN hx hb dX11_provedShare_21 rfl (lv_at hl 0 rfl) ?_
                                                                                                                                                                refine lv_ifnullN (tgt := 36) hx hb dX11_provedShare_22 (by decide) ?_
                                                                                                                                                                refine lv_iconst (v := 0) hx hb dX11_provedShare_36 (by decide) ?_
                                                                                                                                                                refine lv_iadd hx hb dX11_provedShare_37 ?_
                                                                                                                                                                refine lv_topi (fun x_315 e_315 => ?_)
                                                                                                                                                                obtain rfl : x_315 = 0 := e_315.trans (by decide)
                                                                                                                                                                refine lv_istore_n (lv' := [(1, .int 0), (3, .null), (2, .int 78), (0, .ref (h 0))]) hx hb dX11_provedShare_38 rfl hl (by decide) rfl (fun ls hl => ?_)
                                                                                                                                                                refine lv_iinc (v := 79) (lv' := [(2, .int 79), (1, .int 0), (3, .null), (0, .ref (h 0))]) hx hb dX11_provedShare_39 hl (k := 2) rfl (by decide) (by decide) rfl (fun ls hl => ?_)
                                                                                                                                                                refine lv_goto (tgt := 4) hx hb dX11_provedShare_42 (by decide) ?_
                                                                                                                                                                refine lv_iload_n hx hb dX11_provedShare_4 rfl (lv_at hl 0 rfl) ?_
                                                                                                                                                                refine lv_bipush (v := 100) hx hb dX11_provedShare_5 (by decide) ?_
                                                                                                                                                                refine lv_icmp_ge (tgt := 45) hx hb dX11_provedShare_7 (by decide) (fun c_317 => ?_) (fun c_317 => ?_)
                                                                                                                                                                · skip
                                                                                                                                                                  exact absurd c_317 (by decide)
                                                                                                                                                                · skip
                                                                                                                                                                  refine lv_aload_n hx hb dX11_provedShare_10 rfl (lv_at hl 3 rfl) ?_
                                                                                                                                                                  refine va_get (D := D) (ci := 11) (v := .ref (h 1)) (C := RX11) (T := TX11) (N := 15) hx hb ht zinX11 hown hK hP 0 rfl rfl 0 (by decide) (ht _ zw_353) (fun _ h9 => h9) rfl dX11_provedShare_11 ?_
                                                                                                                                                                  refine va_get (D := D) (ci := 8) (v := .ref (h 4)) (C := RX8) (T := TX8) (N := 11) hx hb ht zinX8 hown hK hP 1 rfl rfl 3 (by decide) (ht _ zw_470) (fun _ h9 => h9) rfl dX11_provedShare_14 ?_
                                                                                                                                                                  refine lv_iload_n hx hb dX11_provedShare_17 rfl (lv_at hl 0 rfl) ?_
                                                                                                                                                                  refine va_aldq hx hb hK hP 2 0 rfl rfl (vp_in_iff.mpr (by decide)) dX11_provedShare_18 ?_
                                                                                                                                                                  refine W.eq (g2 := F0 m 19 ls (.null :: [])) rfl ?_
                                                                                                                                                                  refine lv_astore_nN (lv' := [(3, .null), (2, .int 79), (1, .int 0), (0, .ref (h 0))]) hx hb dX11_provedShare_19 rfl hl (by decide) rfl (fun ls hl => ?_)
                                                                                                                                                                  refine lv_iload_n hx hb dX11_provedShare_20 rfl (lv_at hl 2 rfl) ?_
                                                                                                                                                                  refine lv_aload_nN hx hb dX11_provedShare_21 rfl (lv_at hl 0 rfl) ?_
                                                                                                                                                                  refine lv_ifnullN (tgt := 36) hx hb dX11_provedShare_22 (by decide) ?_
                                                                                                                                                                  refine lv_iconst (v := 0) hx hb dX11_provedShare_36 (by decide) ?_
                                                                                                                                                                  refine lv_iadd hx hb dX11_provedShare_37 ?_
                                                                                                                                                                  refine lv_topi (fun x_319 e_319 => ?_)
                                                                                                                                                                  obtain rfl : x_319 = 0 := e_319.trans (by decide)
                                                                                                                                                                  refine lv_istore_n (lv' := [(1, .int 0), (3, .null), (2, .int 79), (0, .ref (h 0))]) hx hb dX11_provedShare_38 rfl hl (by decide) rfl (fun ls hl => ?_)
                                                                                                                                                                  refine lv_iinc (v := 80) (lv' := [(2, .int 80), (1, .int 0), (3, .null), (0, .ref (h 0))]) hx hb dX11_provedShare_39 hl (k := 2) rfl (by decide) (by decide) rfl (fun ls hl => ?_)
                                                                                                                                                                  refine lv_goto (tgt := 4) hx hb dX11_provedShare_42 (by decide) ?_
                                                                                                                                                                  refine lv_iload_n hx hb dX11_provedShare_4 rfl (lv_at hl 0 rfl) ?_
                                                                                                                                                                  refine lv_bipush (v := 100) hx hb dX11_provedShare_5 (by decide) ?_
                                                                                                                                                                  refine lv_icmp_ge (tgt := 45) hx hb dX11_provedShare_7 (by decide) (fun c_321 => ?_) (fun c_321 => ?_)
                                                                                                                                                                  · skip
                                                                                                                                                                    exact absurd c_321 (by decide)
                                                                                                                                                                  · skip
                                                                                                                                                                    refine lv_aload_n hx hb dX11_provedShare_10 rfl (lv_at hl 3 rfl) ?_
                                                                                                                                                                    refine va_get (D := D) (ci := 11) (v := .ref (h 1)) (C := RX11) (T := TX11) (N := 15) hx hb ht zinX11 hown hK hP 0 rfl rfl 0 (by decide) (ht _ zw_353) (fun _ h9 => h9) rfl dX11_provedShare_11 ?_
                                                                                                                                                                    refine va_get (D := D) (ci := 8) (v := .ref (h 4)) (C := RX8) (T := TX8) (N := 11) hx hb ht zinX8 hown hK hP 1 rfl rfl 3 (by decide) (ht _ zw_470) (fun _ h9 => h9) rfl dX11_provedShare_14 ?_
                                                                                                                                                                    refine lv_iload_n hx hb dX11_provedShare_17 rfl (lv_at hl 0 rfl) ?_
                                                                                                                                                                    refine va_aldq hx hb hK hP 2 0 rfl rfl (vp_in_iff.mpr (by decide)) dX11_provedShare_18 ?_
                                                                                                                                                                    refine W.eq (g2 := F0 m 19 ls (.null :: [])) rfl ?_
                                                                                                                                                                    refine lv_astore_nN (lv' := [(3, .null), (2, .int 80), (1, .int 0), (0, .ref (h 0))]) hx hb dX11_provedShare_19 rfl hl (by decide) rfl (fun ls hl => ?_)
                                                                                                                                                                    refine lv_iload_n hx hb dX11_provedShare_20 rfl (lv_at hl 2 rfl) ?_
                                                                                                                                                                    refine lv_aload_nN hx hb dX11_provedShare_21 rfl (lv_at hl 0 rfl) ?_
                                                                                                                                                                    refine lv_ifnullN (tgt := 36) hx hb dX11_provedShare_22 (by decide) ?_
                                                                                                                                                                    refine lv_iconst (v := 0) hx hb dX11_provedShare_36 (by decide) ?_
                                                                                                                                                                    refine lv_iadd hx hb dX11_provedShare_37 ?_
                                                                                                                                                                    refine lv_topi (fun x_323 e_323 => ?_)
                                                                                                                                                                    obtain rfl : x_323 = 0 := e_323.trans (by decide)
                                                                                                                                                                    refine lv_istore_n (lv' := [(1, .int 0), (3, .null), (2, .int 80), (0, .ref (h 0))]) hx hb dX11_provedShare_38 rfl hl (by decide) rfl (fun ls hl => ?_)
                                                                                                                                                                    refine lv_iinc (v := 81) (lv' := [(2, .int 81), (1, .int 0), (3, .null), (0, .ref (h 0))]) hx hb dX11_provedShare_39 hl (k := 2) rfl (by decide) (by decide) rfl (fun ls hl => ?_)
                                                                                                                                                                    refine lv_goto (tgt := 4) hx hb dX11_provedShare_42 (by decide) ?_
                                                                                                                                                                    refine lv_iload_n hx hb dX11_provedShare_4 rfl (lv_at hl 0 rfl) ?_
                                                                                                                                                                    refine lv_bipush (v := 100) hx hb dX11_provedShare_5 (by decide) ?_
                                                                                                                                                                    refine lv_icmp_ge (tgt := 45) hx hb dX11_provedShare_7 (by decide) (fun c_325 => ?_) (fun c_325 => ?_)
                                                                                                                                                                    · skip
                                                                                                                                                                      exact absurd c_325 (by decide)
                                                                                                                                                                    · skip
                                                                                                                                                                      refine lv_aload_n hx hb dX11_provedShare_10 rfl (lv_at hl 3 rfl) ?_
                                                                                                                                                                      refine va_get (D := D) (ci := 11) (v := .ref (h 1)) (C := RX11) (T := TX11) (N := 15) hx hb ht zinX11 hown hK hP 0 rfl rfl 0 (by decide) (ht _ zw_353) (fun _ h9 => h9) rfl dX11_provedShare_11 ?_
                                                                                                                                                                      refine va_get (D := D) (ci := 8) (v := .ref (h 4)) (C := RX8) (T := TX8) (N := 11) hx hb ht zinX8 hown hK hP 1 rfl rfl 3 (by decide) (ht _ zw_470) (fun _ h9 => h9) rfl dX11_provedShare_14 ?_
                                                                                                                                                                      refine lv_iload_n hx hb dX11_provedShare_17 rfl (lv_at hl 0 rfl) ?_
                                                                                                                                                                      refine va_aldq hx hb hK hP 2 0 rfl rfl (vp_in_iff.mpr (by decide)) dX11_provedShare_18 ?_
                                                                                                                                                                      refine W.eq (g2 := F0 m 19 ls (.null :: [])) rfl ?_
                                                                                                                                                                      refine lv_astore_nN (lv' := [(3, .null), (2, .int 81), (1, .int 0), (0, .ref (h 0))]) hx hb dX11_provedShare_19 rfl hl (by decide) rfl (fun ls hl => ?_)
                                                                                                                                                                      refine lv_iload_n hx hb dX11_provedShare_20 rfl (lv_at hl 2 rfl) ?_
                                                                                                                                                                      refine lv_aload_nN hx hb dX11_provedShare_21 rfl (lv_at hl 0 rfl) ?_
                                                                                                                                                                      refine lv_ifnullN (tgt := 36) hx hb dX11_provedShare_22 (by decide) ?_
                                                                                                                                                                      refine lv_iconst (v := 0) hx hb dX11_provedShare_36 (by decide) ?_
                                                                                                                                                                      refine lv_iadd hx hb dX11_provedShare_37 ?_
                                                                                                                                                                      refine lv_topi (fun x_327 e_327 => ?_)
                                                                                                                                                                      obtain rfl : x_327 = 0 := e_327.trans (by decide)
                                                                                                                                                                      refine lv_istore_n (lv' := [(1, .int 0), (3, .null), (2, .int 81), (0, .ref (h 0))]) hx hb dX11_provedShare_38 rfl hl (by decide) rfl (fun ls hl => ?_)
                                                                                                                                                                      refine lv_iinc (v := 82) (lv' := [(2, .int 82), (1, .int 0), (3, .null), (0, .ref (h 0))]) hx hb dX11_provedShare_39 hl (k := 2) rfl (by decide) (by decide) rfl (fun ls hl => ?_)
                                                                                                                                                                      refine lv_goto (tgt := 4) hx hb dX11_provedShare_42 (by decide) ?_
                                                                                                                                                                      refine lv_iload_n hx hb dX11_provedShare_4 rfl (lv_at hl 0 rfl) ?_
                                                                                                                                                                      refine lv_bipush (v := 100) hx hb dX11_provedShare_5 (by decide) ?_
                                                                                                                                                                      refine lv_icmp_ge (tgt := 45) hx hb dX11_provedShare_7 (by decide) (fun c_329 => ?_) (fun c_329 => ?_)
                                                                                                                                                                      · skip
                                                                                                                                                                        exact absurd c_329 (by decide)
                                                                                                                                                                      · skip
                                                                                                                                                                        refine lv_aload_n hx hb dX11_provedShare_10 rfl (lv_at hl 3 rfl) ?_
                                                                                                                                                                        refine va_get (D := D) (ci := 11) (v := .ref (h 1)) (C := RX11) (T := TX11) (N := 15) hx hb ht zinX11 hown hK hP 0 rfl rfl 0 (by decide) (ht _ zw_353) (fun _ h9 => h9) rfl dX11_provedShare_11 ?_
                                                                                                                                                                        refine va_get (D := D) (ci := 8) (v := .ref (h 4)) (C := RX8) (T := TX8) (N := 11) hx hb ht zinX8 hown hK hP 1 rfl rfl 3 (by decide) (ht _ zw_470) (fun _ h9 => h9) rfl dX11_provedShare_14 ?_
                                                                                                                                                                        refine lv_iload_n hx hb dX11_provedShare_17 rfl (lv_at hl 0 rfl) ?_
                                                                                                                                                                        refine va_aldq hx hb hK hP 2 0 rfl rfl (vp_in_iff.mpr (by decide)) dX11_provedShare_18 ?_
                                                                                                                                                                        refine W.eq (g2 := F0 m 19 ls (.null :: [])) rfl ?_
                                                                                                                                                                        refine lv_astore_nN (lv' := [(3, .null), (2, .int 82), (1, .int 0), (0, .ref (h 0))]) hx hb dX11_provedShare_19 rfl hl (by decide) rfl (fun ls hl => ?_)
                                                                                                                                                                        refine lv_iload_n hx hb dX11_provedShare_20 rfl (lv_at hl 2 rfl) ?_
                                                                                                                                                                        refine lv_aload_nN hx hb dX11_provedShare_21 rfl (lv_at hl 0 rfl) ?_
                                                                                                                                                                        refine lv_ifnullN (tgt := 36) hx hb dX11_provedShare_22 (by decide) ?_
                                                                                                                                                                        refine lv_iconst (v := 0) hx hb dX11_provedShare_36 (by decide) ?_
                                                                                                                                                                        refine lv_iadd hx hb dX11_provedShare_37 ?_
                                                                                                                                                                        refine lv_topi (fun x_331 e_331 => ?_)
                                                                                                                                                                        obtain rfl : x_331 = 0 := e_331.trans (by decide)
                                                                                                                                                                        refine lv_istore_n (lv' := [(1, .int 0), (3, .null), (2, .int 82), (0, .ref (h 0))]) hx hb dX11_provedShare_38 rfl hl (by decide) rfl (fun ls hl => ?_)
                                                                                                                                                                        refine lv_iinc (v := 83) (lv' := [(2, .int 83), (1, .int 0), (3, .null), (0, .ref (h 0))]) hx hb dX11_provedShare_39 hl (k := 2) rfl (by decide) (by decide) rfl (fun ls hl => ?_)
                                                                                                                                                                        refine lv_goto (tgt := 4) hx hb dX11_provedShare_42 (by decide) ?_
                                                                                                                                                                        refine lv_iload_n hx hb dX11_provedShare_4 rfl (lv_at hl 0 rfl) ?_
                                                                                                                                                                        refine lv_bipush (v := 100) hx hb dX11_provedShare_5 (by decide) ?_
                                                                                                                                                                        refine lv_icmp_ge (tgt := 45) hx hb dX11_provedShare_7 (by decide) (fun c_333 => ?_) (fun c_333 => ?_)
                                                                                                                                                                        · skip
                                                                                                                                                                          exact absurd c_333 (by decide)
                                                                                                                                                                        · skip
                                                                                                                                                                          refine lv_aload_n hx hb dX11_provedShare_10 rfl (lv_at hl 3 rfl) ?_
                                                                                                                                                                          refine va_get (D := D) (ci := 11) (v := .ref (h 1)) (C := RX11) (T := TX11) (N := 15) hx hb ht zinX11 hown hK hP 0 rfl rfl 0 (by decide) (ht _ zw_353) (fun _ h9 => h9) rfl dX11_provedShare_11 ?_
                                                                                                                                                                          refine va_get (D := D) (ci := 8) (v := .ref (h 4)) (C := RX8) (T := TX8) (N := 11) hx hb ht zinX8 hown hK hP 1 rfl rfl 3 (by decide) (ht _ zw_470) (fun _ h9 => h9) rfl dX11_provedShare_14 ?_
                                                                                                                                                                          refine lv_iload_n hx hb dX11_provedShare_17 rfl (lv_at hl 0 rfl) ?_
                                                                                                                                                                          refine va_aldq hx hb hK hP 2 0 rfl rfl (vp_in_iff.mpr (by decide)) dX11_provedShare_18 ?_
                                                                                                                                                                          refine W.eq (g2 := F0 m 19 ls (.null :: [])) rfl ?_
                                                                                                                                                                          refine lv_astore_nN (lv' := [(3, .null), (2, .int 83), (1, .int 0), (0, .ref (h 0))]) hx hb dX11_provedShare_19 rfl hl (by decide) rfl (fun ls hl => ?_)
                                                                                                                                                                          refine lv_iload_n hx hb dX11_provedShare_20 rfl (lv_at hl 2 rfl) ?_
                                                                                                                                                                          refine lv_aload_nN hx hb dX11_provedShare_21 rfl (lv_at hl 0 rfl) ?_
                                                                                                                                                                          refine lv_ifnullN (tgt := 36) hx hb dX11_provedShare_22 (by decide) ?_
                                                                                                                                                                          refine lv_iconst (v := 0) hx hb dX11_provedShare_36 (by decide) ?_
                                                                                                                                                                          refine lv_iadd hx hb dX11_provedShare_37 ?_
                                                                                                                                                                          refine lv_topi (fun x_335 e_335 => ?_)
                                                                                                                                                                          obtain rfl : x_335 = 0 := e_335.trans (by decide)
                                                                                                                                                                          refine lv_istore_n (lv' := [(1, .int 0), (3, .null), (2, .int 83), (0, .ref (h 0))]) hx hb dX11_provedShare_38 rfl hl (by decide) rfl (fun ls hl => ?_)
                                                                                                                                                                          refine lv_iinc (v := 84) (lv' := [(2, .int 84), (1, .int 0), (3, .null), (0, .ref (h 0))]) hx hb dX11_provedShare_39 hl (k := 2) rfl (by decide) (by decide) rfl (fun ls hl => ?_)
                                                                                                                                                                          refine lv_goto (tgt := 4) hx hb dX11_provedShare_42 (by decide) ?_
                                                                                                                                                                          refine lv_iload_n hx hb dX11_provedShare_4 rfl (lv_at hl 0 rfl) ?_
                                                                                                                                                                          refine lv_bipush (v := 100) hx hb dX11_provedShare_5 (by decide) ?_
                                                                                                                                                                          refine lv_icmp_ge (tgt := 45) hx hb dX11_provedShare_7 (by decide) (fun c_337 => ?_) (fun c_337 => ?_)
                                                                                                                                                                          · skip
                                                                                                                                                                            exact absurd c_337 (by decide)
                                                                                                                                                                          · skip
                                                                                                                                                                            refine lv_aload_n hx hb dX11_provedShare_10 rfl (lv_at hl 3 rfl) ?_
                                                                                                                                                                            refine va_get (D := D) (ci := 11) (v := .ref (h 1)) (C := RX11) (T := TX11) (N := 15) hx hb ht zinX11 hown hK hP 0 rfl rfl 0 (by decide) (ht _ zw_353) (fun _ h9 => h9) rfl dX11_provedShare_11 ?_
                                                                                                                                                                            refine va_get (D := D) (ci := 8) (v := .ref (h 4)) (C := RX8) (T := TX8) (N := 11) hx hb ht zinX8 hown hK hP 1 rfl rfl 3 (by decide) (ht _ zw_470) (fun _ h9 => h9) rfl dX11_provedShare_14 ?_
                                                                                                                                                                            refine lv_iload_n hx hb dX11_provedShare_17 rfl (lv_at hl 0 rfl) ?_
                                                                                                                                                                            refine va_aldq hx hb hK hP 2 0 rfl rfl (vp_in_iff.mpr (by decide)) dX11_provedShare_18 ?_
                                                                                                                                                                            refine W.eq (g2 := F0 m 19 ls (.null :: [])) rfl ?_
                                                                                                                                                                            refine lv_astore_nN (lv' := [(3, .null), (2, .int 84), (1, .int 0), (0, .ref (h 0))]) hx hb dX11_provedShare_19 rfl hl (by decide) rfl (fun ls hl => ?_)
                                                                                                                                                                            refine lv_iload_n hx hb dX11_provedShare_20 rfl (lv_at hl 2 rfl) ?_
                                                                                                                                                                            refine lv_aload_nN hx hb dX11_provedShare_21 rfl (lv_at hl 0 rfl) ?_
                                                                                                                                                                            refine lv_ifnullN (tgt := 36) hx hb dX11_provedShare_22 (by decide) ?_
                                                                                                                                                                            refine lv_iconst (v := 0) hx hb dX11_provedShare_36 (by decide) ?_
                                                                                                                                                                            refine lv_iadd hx hb dX11_provedShare_37 ?_
                                                                                                                                                                            refine lv_topi (fun x_339 e_339 => ?_)
                                                                                                                                                                            obtain rfl : x_339 = 0 := e_339.trans (by decide)
                                                                                                                                                                            refine lv_istore_n (lv' := [(1, .int 0), (3, .null), (2, .int 84), (0, .ref (h 0))]) hx hb dX11_provedShare_38 rfl hl (by decide) rfl (fun ls hl => ?_)
                                                                                                                                                                            refine lv_iinc (v := 85) (lv' := [(2, .int 85), (1, .int 0), (3, .null), (0, .ref (h 0))]) hx hb dX11_provedShare_39 hl (k := 2) rfl (by decide) (by decide) rfl (fun ls hl => ?_)
                                                                                                                                                                            refine lv_goto (tgt := 4) hx hb dX11_provedShare_42 (by decide) ?_
                                                                                                                                                                            refine lv_iload_n hx hb dX11_provedShare_4 rfl (lv_at hl 0 rfl) ?_
                                                                                                                                                                            refine lv_bipush (v := 100) hx hb dX11_provedShare_5 (by decide) ?_
                                                                                                                                                                            refine lv_icmp_ge (tgt := 45) hx hb dX11_provedShare_7 (by decide) (fun c_341 => ?_) (fun c_341 => ?_)
                                                                                                                                                                            · skip
                                                                                                                                                                              exact absurd c_341 (by decide)
                                                                                                                                                                            · skip
                                                                                                                                                                              refine lv_aload_n hx hb dX11_provedShare_10 rfl (lv_at hl 3 rfl) ?_
                                                                                                                                                                              refine va_get (D := D) (ci := 11) (v := .ref (h 1)) (C := RX11) (T := TX11) (N := 15) hx hb ht zinX11 hown hK hP 0 rfl rfl 0 (by decide) (ht _ zw_353) (fun _ h9 => h9) rfl dX11_provedShare_11 ?_
                                                                                                                                                                              refine va_get (D := D) (ci := 8) (v := .ref (h 4)) (C := RX8) (T := TX8) (N := 11) hx hb ht zinX8 hown hK hP 1 rfl rfl 3 (by decide) (ht _ zw_470) (fun _ h9 => h9) rfl dX11_provedShare_14 ?_
                                                                                                                                                                              refine lv_iload_n hx hb dX11_provedShare_17 rfl (lv_at hl 0 rfl) ?_
                                                                                                                                                                              refine va_aldq hx hb hK hP 2 0 rfl rfl (vp_in_iff.mpr (by decide)) dX11_provedShare_18 ?_
                                                                                                                                                                              refine W.eq (g2 := F0 m 19 ls (.null :: [])) rfl ?_
                                                                                                                                                                              refine lv_astore_nN (lv' := [(3, .null), (2, .int 85), (1, .int 0), (0, .ref (h 0))]) hx hb dX11_provedShare_19 rfl hl (by decide) rfl (fun ls hl => ?_)
                                                                                                                                                                              refine lv_iload_n hx hb dX11_provedShare_20 rfl (lv_at hl 2 rfl) ?_
                                                                                                                                                                              refine lv_aload_nN hx hb dX11_provedShare_21 rfl (lv_at hl 0 rfl) ?_
                                                                                                                                                                              refine lv_ifnullN (tgt := 36) hx hb dX11_provedShare_22 (by decide) ?_
                                                                                                                                                                              refine lv_iconst (v := 0) hx hb dX11_provedShare_36 (by decide) ?_
                                                                                                                                                                              refine lv_iadd hx hb dX11_provedShare_37 ?_
                                                                                                                                                                              refine lv_topi (fun x_343 e_343 => ?_)
                                                                                                                                                                              obtain rfl : x_343 = 0 := e_343.trans (by decide)
                                                                                                                                                                              refine lv_istore_n (lv' := [(1, .int 0), (3, .null), (2, .int 85), (0, .ref (h 0))]) hx hb dX11_provedShare_38 rfl hl (by decide) rfl (fun ls hl => ?_)
                                                                                                                                                                              refine lv_iinc (v := 86) (lv' := [(2, .int 86), (1, .int 0), (3, .null), (0, .ref (h 0))]) hx hb dX11_provedShare_39 hl (k := 2) rfl (by decide) (by decide) rfl (fun ls hl => ?_)
                                                                                                                                                                              refine lv_goto (tgt := 4) hx hb dX11_provedShare_42 (by decide) ?_
                                                                                                                                                                              refine lv_iload_n hx hb dX11_provedShare_4 rfl (lv_at hl 0 rfl) ?_
                                                                                                                                                                              refine lv_bipush (v := 100) hx hb dX11_provedShare_5 (by decide) ?_
                                                                                                                                                                              refine lv_icmp_ge (tgt := 45) hx hb dX11_provedShare_7 (by decide) (fun c_345 => ?_) (fun c_345 => ?_)
                                                                                                                                                                              · skip
                                                                                                                                                                                exact absurd c_345 (by decide)
                                                                                                                                                                              · skip
                                                                                                                                                                                refine lv_aload_n hx hb dX11_provedShare_10 rfl (lv_at hl 3 rfl) ?_
                                                                                                                                                                                refine va_get (D := D) (ci := 11) (v := .ref (h 1)) (C := RX11) (T := TX11) (N := 15) hx hb ht zinX11 hown hK hP 0 rfl rfl 0 (by decide) (ht _ zw_353) (fun _ h9 => h9) rfl dX11_provedShare_11 ?_
                                                                                                                                                                                refine va_get (D := D) (ci := 8) (v := .ref (h 4)) (C := RX8) (T := TX8) (N := 11) hx hb ht zinX8 hown hK hP 1 rfl rfl 3 (by decide) (ht _ zw_470) (fun _ h9 => h9) rfl dX11_provedShare_14 ?_
                                                                                                                                                                                refine lv_iload_n hx hb dX11_provedShare_17 rfl (lv_at hl 0 rfl) ?_
                                                                                                                                                                                refine va_aldq hx hb hK hP 2 0 rfl rfl (vp_in_iff.mpr (by decide)) dX11_provedShare_18 ?_
                                                                                                                                                                                refine W.eq (g2 := F0 m 19 ls (.null :: [])) rfl ?_
                                                                                                                                                                                refine lv_astore_nN (lv' := [(3, .null), (2, .int 86), (1, .int 0), (0, .ref (h 0))]) hx hb dX11_provedShare_19 rfl hl (by decide) rfl (fun ls hl => ?_)
                                                                                                                                                                                refine lv_iload_n hx hb dX11_provedShare_20 rfl (lv_at hl 2 rfl) ?_
                                                                                                                                                                                refine lv_aload_nN hx hb dX11_provedShare_21 rfl (lv_at hl 0 rfl) ?_
                                                                                                                                                                                refine lv_ifnullN (tgt := 36) hx hb dX11_provedShare_22 (by decide) ?_
                                                                                                                                                                                refine lv_iconst (v := 0) hx hb dX11_provedShare_36 (by decide) ?_
                                                                                                                                                                                refine lv_iadd hx hb dX11_provedShare_37 ?_
                                                                                                                                                                                refine lv_topi (fun x_347 e_347 => ?_)
                                                                                                                                                                                obtain rfl : x_347 = 0 := e_347.trans (by decide)
                                                                                                                                                                                refine lv_istore_n (lv' := [(1, .int 0), (3, .null), (2, .int 86), (0, .ref (h 0))]) hx hb dX11_provedShare_38 rfl hl (by decide) rfl (fun ls hl => ?_)
                                                                                                                                                                                refine lv_iinc (v := 87) (lv' := [(2, .int 87), (1, .int 0), (3, .null), (0, .ref (h 0))]) hx hb dX11_provedShare_39 hl (k := 2) rfl (by decide) (by decide) rfl (fun ls hl => ?_)
                                                                                                                                                                                refine lv_goto (tgt := 4) hx hb dX11_provedShare_42 (by decide) ?_
                                                                                                                                                                                refine lv_iload_n hx hb dX11_provedShare_4 rfl (lv_at hl 0 rfl) ?_
                                                                                                                                                                                refine lv_bipush (v := 100) hx hb dX11_provedShare_5 (by decide) ?_
                                                                                                                                                                                refine lv_icmp_ge (tgt := 45) hx hb dX11_provedShare_7 (by decide) (fun c_349 => ?_) (fun c_349 => ?_)
                                                                                                                                                                                · skip
                                                                                                                                                                                  exact absurd c_349 (by decide)
                                                                                                                                                                                · skip
                                                                                                                                                                                  refine lv_aload_n hx hb dX11_provedShare_10 rfl (lv_at hl 3 rfl) ?_
                                                                                                                                                                                  refine va_get (D := D) (ci := 11) (v := .ref (h 1)) (C := RX11) (T := TX11) (N := 15) hx hb ht zinX11 hown hK hP 0 rfl rfl 0 (by decide) (ht _ zw_353) (fun _ h9 => h9) rfl dX11_provedShare_11 ?_
                                                                                                                                                                                  refine va_get (D := D) (ci := 8) (v := .ref (h 4)) (C := RX8) (T := TX8) (N := 11) hx hb ht zinX8 hown hK hP 1 rfl rfl 3 (by decide) (ht _ zw_470) (fun _ h9 => h9) rfl dX11_provedShare_14 ?_
                                                                                                                                                                                  refine lv_iload_n hx hb dX11_provedShare_17 rfl (lv_at hl 0 rfl) ?_
                                                                                                                                                                                  refine va_aldq hx hb hK hP 2 0 rfl rfl (vp_in_iff.mpr (by decide)) dX11_provedShare_18 ?_
                                                                                                                                                                                  refine W.eq (g2 := F0 m 19 ls (.null :: [])) rfl ?_
                                                                                                                                                                                  refine lv_astore_nN (lv' := [(3, .null), (2, .int 87), (1, .int 0), (0, .ref (h 0))]) hx hb dX11_provedShare_19 rfl hl (by decide) rfl (fun ls hl => ?_)
                                                                                                                                                                                  refine lv_iload_n hx hb dX11_provedShare_20 rfl (lv_at hl 2 rfl) ?_
                                                                                                                                                                                  refine lv_aload_nN hx hb dX11_provedShare_21 rfl (lv_at hl 0 rfl) ?_
                                                                                                                                                                                  refine lv_ifnullN (tgt := 36) hx hb dX11_provedShare_22 (by decide) ?_
                                                                                                                                                                                  refine lv_iconst (v := 0) hx hb dX11_provedShare_36 (by decide) ?_
                                                                                                                                                                                  refine lv_iadd hx hb dX11_provedShare_37 ?_
                                                                                                                                                                                  refine lv_topi (fun x_351 e_351 => ?_)
                                                                                                                                                                                  obtain rfl : x_351 = 0 := e_351.trans (by decide)
                                                                                                                                                                                  refine lv_istore_n (lv' := [(1, .int 0), (3, .null), (2, .int 87), (0, .ref (h 0))]) hx hb dX11_provedShare_38 rfl hl (by decide) rfl (fun ls hl => ?_)
                                                                                                                                                                                  refine lv_iinc (v := 88) (lv' := [(2, .int 88), (1, .int 0), (3, .null), (0, .ref (h 0))]) hx hb dX11_provedShare_39 hl (k := 2) rfl (by decide) (by decide) rfl (fun ls hl => ?_)
                                                                                                                                                                                  refine lv_goto (tgt := 4) hx hb dX11_provedShare_42 (by decide) ?_
                                                                                                                                                                                  refine lv_iload_n hx hb dX11_provedShare_4 rfl (lv_at hl 0 rfl) ?_
                                                                                                                                                                                  refine lv_bipush (v := 100) hx hb dX11_provedShare_5 (by decide) ?_
                                                                                                                                                                                  refine lv_icmp_ge (tgt := 45) hx hb dX11_provedShare_7 (by decide) (fun c_353 => ?_) (fun c_353 => ?_)
                                                                                                                                                                                  · skip
                                                                                                                                                                                    exact absurd c_353 (by decide)
                                                                                                                                                                                  · skip
                                                                                                                                                                                    refine lv_aload_n hx hb dX11_provedShare_10 rfl (lv_at hl 3 rfl) ?_
                                                                                                                                                                                    refine va_get (D := D) (ci := 11) (v := .ref (h 1)) (C := RX11) (T := TX11) (N := 15) hx hb ht zinX11 hown hK hP 0 rfl rfl 0 (by decide) (ht _ zw_353) (fun _ h9 => h9) rfl dX11_provedShare_11 ?_
                                                                                                                                                                                    refine va_get (D := D) (ci := 8) (v := .ref (h 4)) (C := RX8) (T := TX8) (N := 11) hx hb ht zinX8 hown hK hP 1 rfl rfl 3 (by decide) (ht _ zw_470) (fun _ h9 => h9) rfl dX11_provedShare_14 ?_
                                                                                                                                                                                    refine lv_iload_n hx hb dX11_provedShare_17 rfl (lv_at hl 0 rfl) ?_
                                                                                                                                                                                    refine va_aldq hx hb hK hP 2 0 rfl rfl (vp_in_iff.mpr (by decide)) dX11_provedShare_18 ?_
                                                                                                                                                                                    refine W.eq (g2 := F0 m 19 ls (.null :: [])) rfl ?_
                                                                                                                                                                                    refine lv_astore_nN (lv' := [(3, .null), (2, .int 88), (1, .int 0), (0, .ref (h 0))]) hx hb dX11_provedShare_19 rfl hl (by decide) rfl (fun ls hl => ?_)
                                                                                                                                                                                    refine lv_iload_n hx hb dX11_provedShare_20 rfl (lv_at hl 2 rfl) ?_
                                                                                                                                                                                    refine lv_aload_nN hx hb dX11_provedShare_21 rfl (lv_at hl 0 rfl) ?_
                                                                                                                                                                                    refine lv_ifnullN (tgt := 36) hx hb dX11_provedShare_22 (by decide) ?_
                                                                                                                                                                                    refine lv_iconst (v := 0) hx hb dX11_provedShare_36 (by decide) ?_
                                                                                                                                                                                    refine lv_iadd hx hb dX11_provedShare_37 ?_
                                                                                                                                                                                    refine lv_topi (fun x_355 e_355 => ?_)
                                                                                                                                                                                    obtain rfl : x_355 = 0 := e_355.trans (by decide)
                                                                                                                                                                                    refine lv_istore_n (lv' := [(1, .int 0), (3, .null), (2, .int 88), (0, .ref (h 0))]) hx hb dX11_provedShare_38 rfl hl (by decide) rfl (fun ls hl => ?_)
                                                                                                                                                                                    refine lv_iinc (v := 89) (lv' := [(2, .int 89), (1, .int 0), (3, .null), (0, .ref (h 0))]) hx hb dX11_provedShare_39 hl (k := 2) rfl (by decide) (by decide) rfl (fun ls hl => ?_)
                                                                                                                                                                                    refine lv_goto (tgt := 4) hx hb dX11_provedShare_42 (by decide) ?_
                                                                                                                                                                                    refine lv_iload_n hx hb dX11_provedShare_4 rfl (lv_at hl 0 rfl) ?_
                                                                                                                                                                                    refine lv_bipush (v := 100) hx hb dX11_provedShare_5 (by decide) ?_
                                                                                                                                                                                    refine lv_icmp_ge (tgt := 45) hx hb dX11_provedShare_7 (by decide) (fun c_357 => ?_) (fun c_357 => ?_)
                                                                                                                                                                                    · skip
                                                                                                                                                                                      exact absurd c_357 (by decide)
                                                                                                                                                                                    · skip
                                                                                                                                                                                      refine lv_aload_n hx hb dX11_provedShare_10 rfl (lv_at hl 3 rfl) ?_
                                                                                                                                                                                      refine va_get (D := D) (ci := 11) (v := .ref (h 1)) (C := RX11) (T := TX11) (N := 15) hx hb ht zinX11 hown hK hP 0 rfl rfl 0 (by decide) (ht _ zw_353) (fun _ h9 => h9) rfl dX11_provedShare_11 ?_
                                                                                                                                                                                      refine va_get (D := D) (ci := 8) (v := .ref (h 4)) (C := RX8) (T := TX8) (N := 11) hx hb ht zinX8 hown hK hP 1 rfl rfl 3 (by decide) (ht _ zw_470) (fun _ h9 => h9) rfl dX11_provedShare_14 ?_
                                                                                                                                                                                      refine lv_iload_n hx hb dX11_provedShare_17 rfl (lv_at hl 0 rfl) ?_
                                                                                                                                                                                      refine va_aldq hx hb hK hP 2 0 rfl rfl (vp_in_iff.mpr (by decide)) dX11_provedShare_18 ?_
                                                                                                                                                                                      refine W.eq (g2 := F0 m 19 ls (.null :: [])) rfl ?_
                                                                                                                                                                                      refine lv_astore_nN (lv' := [(3, .null), (2, .int 89), (1, .int 0), (0, .ref (h 0))]) hx hb dX11_provedShare_19 rfl hl (by decide) rfl (fun ls hl => ?_)
                                                                                                                                                                                      refine lv_iload_n hx hb dX11_provedShare_20 rfl (lv_at hl 2 rfl) ?_
                                                                                                                                                                                      refine lv_aload_nN hx hb dX11_provedShare_21 rfl (lv_at hl 0 rfl) ?_
                                                                                                                                                                                      refine lv_ifnullN (tgt := 36) hx hb dX11_provedShare_22 (by decide) ?_
                                                                                                                                                                                      refine lv_iconst (v := 0) hx hb dX11_provedShare_36 (by decide) ?_
                                                                                                                                                                                      refine lv_iadd hx hb dX11_provedShare_37 ?_
                                                                                                                                                                                      refine lv_topi (fun x_359 e_359 => ?_)
                                                                                                                                                                                      obtain rfl : x_359 = 0 := e_359.trans (by decide)
                                                                                                                                                                                      refine lv_istore_n (lv' := [(1, .int 0), (3, .null), (2, .int 89), (0, .ref (h 0))]) hx hb dX11_provedShare_38 rfl hl (by decide) rfl (fun ls hl => ?_)
                                                                                                                                                                                      refine lv_iinc (v := 90) (lv' := [(2, .int 90), (1, .int 0), (3, .null), (0, .ref (h 0))]) hx hb dX11_provedShare_39 hl (k := 2) rfl (by decide) (by decide) rfl (fun ls hl => ?_)
                                                                                                                                                                                      refine lv_goto (tgt := 4) hx hb dX11_provedShare_42 (by decide) ?_
                                                                                                                                                                                      refine lv_iload_n hx hb dX11_provedShare_4 rfl (lv_at hl 0 rfl) ?_
                                                                                                                                                                                      refine lv_bipush (v := 100) hx hb dX11_provedShare_5 (by decide) ?_
                                                                                                                                                                                      refine lv_icmp_ge (tgt := 45) hx hb dX11_provedShare_7 (by decide) (fun c_361 => ?_) (fun c_361 => ?_)
                                                                                                                                                                                      · skip
                                                                                                                                                                                        exact absurd c_361 (by decide)
                                                                                                                                                                                      · skip
                                                                                                                                                                                        refine lv_aload_n hx hb dX11_provedShare_10 rfl (lv_at hl 3 rfl) ?_
                                                                                                                                                                                        refine va_get (D := D) (ci := 11) (v := .ref (h 1)) (C := RX11) (T := TX11) (N := 15) hx hb ht zinX11 hown hK hP 0 rfl rfl 0 (by decide) (ht _ zw_353) (fun _ h9 => h9) rfl dX11_provedShare_11 ?_
                                                                                                                                                                                        refine va_get (D := D) (ci := 8) (v := .ref (h 4)) (C := RX8) (T := TX8) (N := 11) hx hb ht zinX8 hown hK hP 1 rfl rfl 3 (by decide) (ht _ zw_470) (fun _ h9 => h9) rfl dX11_provedShare_14 ?_
                                                                                                                                                                                        refine lv_iload_n hx hb dX11_provedShare_17 rfl (lv_at hl 0 rfl) ?_
                                                                                                                                                                                        refine va_aldq hx hb hK hP 2 0 rfl rfl (vp_in_iff.mpr (by decide)) dX11_provedShare_18 ?_
                                                                                                                                                                                        refine W.eq (g2 := F0 m 19 ls (.null :: [])) rfl ?_
                                                                                                                                                                                        refine lv_astore_nN (lv' := [(3, .null), (2, .int 90), (1, .int 0), (0, .ref (h 0))]) hx hb dX11_provedShare_19 rfl hl (by decide) rfl (fun ls hl => ?_)
                                                                                                                                                                                        refine lv_iload_n hx hb dX11_provedShare_20 rfl (lv_at hl 2 rfl) ?_
                                                                                                                                                                                        refine lv_aload_nN hx hb dX11_provedShare_21 rfl (lv_at hl 0 rfl) ?_
                                                                                                                                                                                        refine lv_ifnullN (tgt := 36) hx hb dX11_provedShare_22 (by decide) ?_
                                                                                                                                                                                        refine lv_iconst (v := 0) hx hb dX11_provedShare_36 (by decide) ?_
                                                                                                                                                                                        refine lv_iadd hx hb dX11_provedShare_37 ?_
                                                                                                                                                                                        refine lv_topi (fun x_363 e_363 => ?_)
                                                                                                                                                                                        obtain rfl : x_363 = 0 := e_363.trans (by decide)
                                                                                                                                                                                        refine lv_istore_n (lv' := [(1, .int 0), (3, .null), (2, .int 90), (0, .ref (h 0))]) hx hb dX11_provedShare_38 rfl hl (by decide) rfl (fun ls hl => ?_)
                                                                                                                                                                                        refine lv_iinc (v := 91) (lv' := [(2, .int 91), (1, .int 0), (3, .null), (0, .ref (h 0))]) hx hb dX11_provedShare_39 hl (k := 2) rfl (by decide) (by decide) rfl (fun ls hl => ?_)
                                                                                                                                                                                        refine lv_goto (tgt := 4) hx hb dX11_provedShare_42 (by decide) ?_
                                                                                                                                                                                        refine lv_iload_n hx hb dX11_provedShare_4 rfl (lv_at hl 0 rfl) ?_
                                                                                                                                                                                        refine lv_bipush (v := 100) hx hb dX11_provedShare_5 (by decide) ?_
                                                                                                                                                                                        refine lv_icmp_ge (tgt := 45) hx hb dX11_provedShare_7 (by decide) (fun c_365 => ?_) (fun c_365 => ?_)
                                                                                                                                                                                        · skip
                                                                                                                                                                                          exact absurd c_365 (by decide)
                                                                                                                                                                                        · skip
                                                                                                                                                                                          refine lv_aload_n hx hb dX11_provedShare_10 rfl (lv_at hl 3 rfl) ?_
                                                                                                                                                                                          refine va_get (D := D) (ci := 11) (v := .ref (h 1)) (C := RX11) (T := TX11) (N := 15) hx hb ht zinX11 hown hK hP 0 rfl rfl 0 (by decide) (ht _ zw_353) (fun _ h9 => h9) rfl dX11_provedShare_11 ?_
                                                                                                                                                                                          refine va_get (D := D) (ci := 8) (v := .ref (h 4)) (C := RX8) (T := TX8) (N := 11) hx hb ht zinX8 hown hK hP 1 rfl rfl 3 (by decide) (ht _ zw_470) (fun _ h9 => h9) rfl dX11_provedShare_14 ?_
                                                                                                                                                                                          refine lv_iload_n hx hb dX11_provedShare_17 rfl (lv_at hl 0 rfl) ?_
                                                                                                                                                                                          refine va_aldq hx hb hK hP 2 0 rfl rfl (vp_in_iff.mpr (by decide)) dX11_provedShare_18 ?_
                                                                                                                                                                                          refine W.eq (g2 := F0 m 19 ls (.null :: [])) rfl ?_
                                                                                                                                                                                          refine lv_astore_nN (lv' := [(3, .null), (2, .int 91), (1, .int 0), (0, .ref (h 0))]) hx hb dX11_provedShare_19 rfl hl (by decide) rfl (fun ls hl => ?_)
                                                                                                                                                                                          refine lv_iload_n hx hb dX11_provedShare_20 rfl (lv_at hl 2 rfl) ?_
                                                                                                                                                                                          refine lv_aload_nN hx hb dX11_provedShare_21 rfl (lv_at hl 0 rfl) ?_
                                                                                                                                                                                          refine lv_ifnullN (tgt := 36) hx hb dX11_provedShare_22 (by decide) ?_
                                                                                                                                                                                          refine lv_iconst (v := 0) hx hb dX11_provedShare_36 (by decide) ?_
                                                                                                                                                                                          refine lv_iadd hx hb dX11_provedShare_37 ?_
                                                                                                                                                                                          refine lv_topi (fun x_367 e_367 => ?_)
                                                                                                                                                                                          obtain rfl : x_367 = 0 := e_367.trans (by decide)
                                                                                                                                                                                          refine lv_istore_n (lv' := [(1, .int 0), (3, .null), (2, .int 91), (0, .ref (h 0))]) hx hb dX11_provedShare_38 rfl hl (by decide) rfl (fun ls hl => ?_)
                                                                                                                                                                                          refine lv_iinc (v := 92) (lv' := [(2, .int 92), (1, .int 0), (3, .null), (0, .ref (h 0))]) hx hb dX11_provedShare_39 hl (k := 2) rfl (by decide) (by decide) rfl (fun ls hl => ?_)
                                                                                                                                                                                          refine lv_goto (tgt := 4) hx hb dX11_provedShare_42 (by decide) ?_
                                                                                                                                                                                          refine lv_iload_n hx hb dX11_provedShare_4 rfl (lv_at hl 0 rfl) ?_
                                                                                                                                                                                          refine lv_bipush (v := 100) hx hb dX11_provedShare_5 (by decide) ?_
                                                                                                                                                                                          refine lv_icmp_ge (tgt := 45) hx hb dX11_provedShare_7 (by decide) (fun c_369 => ?_) (fun c_369 => ?_)
                                                                                                                                                                                          · skip
                                                                                                                                                                                            exact absurd c_369 (by decide)
                                                                                                                                                                                          · skip
                                                                                                                                                                                            refine lv_aload_n hx hb dX11_provedShare_10 rfl (lv_at hl 3 rfl) ?_
                                                                                                                                                                                            refine va_get (D := D) (ci := 11) (v := .ref (h 1)) (C := RX11) (T := TX11) (N := 15) hx hb ht zinX11 hown hK hP 0 rfl rfl 0 (by decide) (ht _ zw_353) (fun _ h9 => h9) rfl dX11_provedShare_11 ?_
                                                                                                                                                                                            refine va_get (D := D) (ci := 8) (v := .ref (h 4)) (C := RX8) (T := TX8) (N := 11) hx hb ht zinX8 hown hK hP 1 rfl rfl 3 (by decide) (ht _ zw_470) (fun _ h9 => h9) rfl dX11_provedShare_14 ?_
                                                                                                                                                                                            refine lv_iload_n hx hb dX11_provedShare_17 rfl (lv_at hl 0 rfl) ?_
                                                                                                                                                                                            refine va_aldq hx hb hK hP 2 0 rfl rfl (vp_in_iff.mpr (by decide)) dX11_provedShare_18 ?_
                                                                                                                                                                                            refine W.eq (g2 := F0 m 19 ls (.null :: [])) rfl ?_
                                                                                                                                                                                            refine lv_astore_nN (lv' := [(3, .null), (2, .int 92), (1, .int 0), (0, .ref (h 0))]) hx hb dX11_provedShare_19 rfl hl (by decide) rfl (fun ls hl => ?_)
                                                                                                                                                                                            refine lv_iload_n hx hb dX11_provedShare_20 rfl (lv_at hl 2 rfl) ?_
                                                                                                                                                                                            refine lv_aload_nN hx hb dX11_provedShare_21 rfl (lv_at hl 0 rfl) ?_
                                                                                                                                                                                            refine lv_ifnullN (tgt := 36) hx hb dX11_provedShare_22 (by decide) ?_
                                                                                                                                                                                            refine lv_iconst (v := 0) hx hb dX11_provedShare_36 (by decide) ?_
                                                                                                                                                                                            refine lv_iadd hx hb dX11_provedShare_37 ?_
                                                                                                                                                                                            refine lv_topi (fun x_371 e_371 => ?_)
                                                                                                                                                                                            obtain rfl : x_371 = 0 := e_371.trans (by decide)
                                                                                                                                                                                            refine lv_istore_n (lv' := [(1, .int 0), (3, .null), (2, .int 92), (0, .ref (h 0))]) hx hb dX11_provedShare_38 rfl hl (by decide) rfl (fun ls hl => ?_)
                                                                                                                                                                                            refine lv_iinc (v := 93) (lv' := [(2, .int 93), (1, .int 0), (3, .null), (0, .ref (h 0))]) hx hb dX11_provedShare_39 hl (k := 2) rfl (by decide) (by decide) rfl (fun ls hl => ?_)
                                                                                                                                                                                            refine lv_goto (tgt := 4) hx hb dX11_provedShare_42 (by decide) ?_
                                                                                                                                                                                            refine lv_iload_n hx hb dX11_provedShare_4 rfl (lv_at hl 0 rfl) ?_
                                                                                                                                                                                            refine lv_bipush (v := 100) hx hb dX11_provedShare_5 (by decide) ?_
                                                                                                                                                                                            refine lv_icmp_ge (tgt := 45) hx hb dX11_provedShare_7 (by decide) (fun c_373 => ?_) (fun c_373 => ?_)
                                                                                                                                                                                            · skip
                                                                                                                                                                                              exact absurd c_373 (by decide)
                                                                                                                                                                                            · skip
                                                                                                                                                                                              refine lv_aload_n hx hb dX11_provedShare_10 rfl (lv_at hl 3 rfl) ?_
                                                                                                                                                                                              refine va_get (D := D) (ci := 11) (v := .ref (h 1)) (C := RX11) (T := TX11) (N := 15) hx hb ht zinX11 hown hK hP 0 rfl rfl 0 (by decide) (ht _ zw_353) (fun _ h9 => h9) rfl dX11_provedShare_11 ?_
                                                                                                                                                                                              refine va_get (D := D) (ci := 8) (v := .ref (h 4)) (C := RX8) (T := TX8) (N := 11) hx hb ht zinX8 hown hK hP 1 rfl rfl 3 (by decide) (ht _ zw_470) (fun _ h9 => h9) rfl dX11_provedShare_14 ?_
                                                                                                                                                                                              refine lv_iload_n hx hb dX11_provedShare_17 rfl (lv_at hl 0 rfl) ?_
                                                                                                                                                                                              refine va_aldq hx hb hK hP 2 0 rfl rfl (vp_in_iff.mpr (by decide)) dX11_provedShare_18 ?_
                                                                                                                                                                                              refine W.eq (g2 := F0 m 19 ls (.null :: [])) rfl ?_
                                                                                                                                                                                              refine lv_astore_nN (lv' := [(3, .null), (2, .int 93), (1, .int 0), (0, .ref (h 0))]) hx hb dX11_provedShare_19 rfl hl (by decide) rfl (fun ls hl => ?_)
                                                                                                                                                                                              refine lv_iload_n hx hb dX11_provedShare_20 rfl (lv_at hl 2 rfl) ?_
                                                                                                                                                                                              refine lv_aload_nN hx hb dX11_provedShare_21 rfl (lv_at hl 0 rfl) ?_
                                                                                                                                                                                              refine lv_ifnullN (tgt := 36) hx hb dX11_provedShare_22 (by decide) ?_
                                                                                                                                                                                              refine lv_iconst (v := 0) hx hb dX11_provedShare_36 (by decide) ?_
                                                                                                                                                                                              refine lv_iadd hx hb dX11_provedShare_37 ?_
                                                                                                                                                                                              refine lv_topi (fun x_375 e_375 => ?_)
                                                                                                                                                                                              obtain rfl : x_375 = 0 := e_375.trans (by decide)
                                                                                                                                                                                              refine lv_istore_n (lv' := [(1, .int 0), (3, .null), (2, .int 93), (0, .ref (h 0))]) hx hb dX11_provedShare_38 rfl hl (by decide) rfl (fun ls hl => ?_)
                                                                                                                                                                                              refine lv_iinc (v := 94) (lv' := [(2, .int 94), (1, .int 0), (3, .null), (0, .ref (h 0))]) hx hb dX11_provedShare_39 hl (k := 2) rfl (by decide) (by decide) rfl (fun ls hl => ?_)
                                                                                                                                                                                              refine lv_goto (tgt := 4) hx hb dX11_provedShare_42 (by decide) ?_
                                                                                                                                                                                              refine lv_iload_n hx hb dX11_provedShare_4 rfl (lv_at hl 0 rfl) ?_
                                                                                                                                                                                              refine lv_bipush (v := 100) hx hb dX11_provedShare_5 (by decide) ?_
                                                                                                                                                                                              refine lv_icmp_ge (tgt := 45) hx hb dX11_provedShare_7 (by decide) (fun c_377 => ?_) (fun c_377 => ?_)
                                                                                                                                                                                              · skip
                                                                                                                                                                                                exact absurd c_377 (by decide)
                                                                                                                                                                                              · skip
                                                                                                                                                                                                refine lv_aload_n hx hb dX11_provedShare_10 rfl (lv_at hl 3 rfl) ?_
                                                                                                                                                                                                refine va_get (D := D) (ci := 11) (v := .ref (h 1)) (C := RX11) (T := TX11) (N := 15) hx hb ht zinX11 hown hK hP 0 rfl rfl 0 (by decide) (ht _ zw_353) (fun _ h9 => h9) rfl dX11_provedShare_11 ?_
                                                                                                                                                                                                refine va_get (D := D) (ci := 8) (v := .ref (h 4)) (C := RX8) (T := TX8) (N := 11) hx hb ht zinX8 hown hK hP 1 rfl rfl 3 (by decide) (ht _ zw_470) (fun _ h9 => h9) rfl dX11_provedShare_14 ?_
                                                                                                                                                                                                refine lv_iload_n hx hb dX11_provedShare_17 rfl (lv_at hl 0 rfl) ?_
                                                                                                                                                                                                refine va_aldq hx hb hK hP 2 0 rfl rfl (vp_in_iff.mpr (by decide)) dX11_provedShare_18 ?_
                                                                                                                                                                                                refine W.eq (g2 := F0 m 19 ls (.null :: [])) rfl ?_
                                                                                                                                                                                                refine lv_astore_nN (lv' := [(3, .null), (2, .int 94), (1, .int 0), (0, .ref (h 0))]) hx hb dX11_provedShare_19 rfl hl (by decide) rfl (fun ls hl => ?_)
                                                                                                                                                                                                refine lv_iload_n hx hb dX11_provedShare_20 rfl (lv_at hl 2 rfl) ?_
                                                                                                                                                                                                refine lv_aload_nN hx hb dX11_provedShare_21 rfl (lv_at hl 0 rfl) ?_
                                                                                                                                                                                                refine lv_ifnullN (tgt := 36) hx hb dX11_provedShare_22 (by decide) ?_
                                                                                                                                                                                                refine lv_iconst (v := 0) hx hb dX11_provedShare_36 (by decide) ?_
                                                                                                                                                                                                refine lv_iadd hx hb dX11_provedShare_37 ?_
                                                                                                                                                                                                refine lv_topi (fun x_379 e_379 => ?_)
                                                                                                                                                                                                obtain rfl : x_379 = 0 := e_379.trans (by decide)
                                                                                                                                                                                                refine lv_istore_n (lv' := [(1, .int 0), (3, .null), (2, .int 94), (0, .ref (h 0))]) hx hb dX11_provedShare_38 rfl hl (by decide) rfl (fun ls hl => ?_)
                                                                                                                                                                                                refine lv_iinc (v := 95) (lv' := [(2, .int 95), (1, .int 0), (3, .null), (0, .ref (h 0))]) hx hb dX11_provedShare_39 hl (k := 2) rfl (by decide) (by decide) rfl (fun ls hl => ?_)
                                                                                                                                                                                                refine lv_goto (tgt := 4) hx hb dX11_provedShare_42 (by decide) ?_
                                                                                                                                                                                                refine lv_iload_n hx hb dX11_provedShare_4 rfl (lv_at hl 0 rfl) ?_
                                                                                                                                                                                                refine lv_bipush (v := 100) hx hb dX11_provedShare_5 (by decide) ?_
                                                                                                                                                                                                refine lv_icmp_ge (tgt := 45) hx hb dX11_provedShare_7 (by decide) (fun c_381 => ?_) (fun c_381 => ?_)
                                                                                                                                                                                                · skip
                                                                                                                                                                                                  exact absurd c_381 (by decide)
                                                                                                                                                                                                · skip
                                                                                                                                                                                                  refine lv_aload_n hx hb dX11_provedShare_10 rfl (lv_at hl 3 rfl) ?_
                                                                                                                                                                                                  refine va_get (D := D) (ci := 11) (v := .ref (h 1)) (C := RX11) (T := TX11) (N := 15) hx hb ht zinX11 hown hK hP 0 rfl rfl 0 (by decide) (ht _ zw_353) (fun _ h9 => h9) rfl dX11_provedShare_11 ?_
                                                                                                                                                                                                  refine va_get (D := D) (ci := 8) (v := .ref (h 4)) (C := RX8) (T := TX8) (N := 11) hx hb ht zinX8 hown hK hP 1 rfl rfl 3 (by decide) (ht _ zw_470) (fun _ h9 => h9) rfl dX11_provedShare_14 ?_
                                                                                                                                                                                                  refine lv_iload_n hx hb dX11_provedShare_17 rfl (lv_at hl 0 rfl) ?_
                                                                                                                                                                                                  refine va_aldq hx hb hK hP 2 0 rfl rfl (vp_in_iff.mpr (by decide)) dX11_provedShare_18 ?_
                                                                                                                                                                                                  refine W.eq (g2 := F0 m 19 ls (.null :: [])) rfl ?_
                                                                                                                                                                                                  refine lv_astore_nN (lv' := [(3, .null), (2, .int 95), (1, .int 0), (0, .ref (h 0))]) hx hb dX11_provedShare_19 rfl hl (by decide) rfl (fun ls hl => ?_)
                                                                                                                                                                                                  refine lv_iload_n hx hb dX11_provedShare_20 rfl (lv_at hl 2 rfl) ?_
                                                                                                                                                                                                  refine lv_aload_nN hx hb dX11_provedShare_21 rfl (lv_at hl 0 rfl) ?_
                                                                                                                                                                                                  refine lv_ifnullN (tgt := 36) hx hb dX11_provedShare_22 (by decide) ?_
                                                                                                                                                                                                  refine lv_iconst (v := 0) hx hb dX11_provedShare_36 (by decide) ?_
                                                                                                                                                                                                  refine lv_iadd hx hb dX11_provedShare_37 ?_
                                                                                                                                                                                                  refine lv_topi (fun x_383 e_383 => ?_)
                                                                                                                                                                                                  obtain rfl : x_383 = 0 := e_383.trans (by decide)
                                                                                                                                                                                                  refine lv_istore_n (lv' := [(1, .int 0), (3, .null), (2, .int 95), (0, .ref (h 0))]) hx hb dX11_provedShare_38 rfl hl (by decide) rfl (fun ls hl => ?_)
                                                                                                                                                                                                  refine lv_iinc (v := 96) (lv' := [(2, .int 96), (1, .int 0), (3, .null), (0, .ref (h 0))]) hx hb dX11_provedShare_39 hl (k := 2) rfl (by decide) (by decide) rfl (fun ls hl => ?_)
                                                                                                                                                                                                  refine lv_goto (tgt := 4) hx hb dX11_provedShare_42 (by decide) ?_
                                                                                                                                                                                                  refine lv_iload_n hx hb dX11_provedShare_4 rfl (lv_at hl 0 rfl) ?_
                                                                                                                                                                                                  refine lv_bipush (v := 100) hx hb dX11_provedShare_5 (by decide) ?_
                                                                                                                                                                                                  refine lv_icmp_ge (tgt := 45) hx hb dX11_provedShare_7 (by decide) (fun c_385 => ?_) (fun c_385 => ?_)
                                                                                                                                                                                                  · skip
                                                                                                                                                                                                    exact absurd c_385 (by decide)
                                                                                                                                                                                                  · skip
                                                                                                                                                                                                    refine lv_aload_n hx hb dX11_provedShare_10 rfl (lv_at hl 3 rfl) ?_
                                                                                                                                                                                                    refine va_get (D := D) (ci := 11) (v := .ref (h 1)) (C := RX11) (T := TX11) (N := 15) hx hb ht zinX11 hown hK hP 0 rfl rfl 0 (by decide) (ht _ zw_353) (fun _ h9 => h9) rfl dX11_provedShare_11 ?_
                                                                                                                                                                                                    refine va_get (D := D) (ci := 8) (v := .ref (h 4)) (C := RX8) (T := TX8) (N := 11) hx hb ht zinX8 hown hK hP 1 rfl rfl 3 (by decide) (ht _ zw_470) (fun _ h9 => h9) rfl dX11_provedShare_14 ?_
                                                                                                                                                                                                    refine lv_iload_n hx hb dX11_provedShare_17 rfl (lv_at hl 0 rfl) ?_
                                                                                                                                                                                                    refine va_aldq hx hb hK hP 2 0 rfl rfl (vp_in_iff.mpr (by decide)) dX11_provedShare_18 ?_
                                                                                                                                                                                                    refine W.eq (g2 := F0 m 19 ls (.null :: [])) rfl ?_
                                                                                                                                                                                                    refine lv_astore_nN (lv' := [(3, .null), (2, .int 96), (1, .int 0), (0, .ref (h 0))]) hx hb dX11_provedShare_19 rfl hl (by decide) rfl (fun ls hl => ?_)
                                                                                                                                                                                                    refine lv_iload_n hx hb dX11_provedShare_20 rfl (lv_at hl 2 rfl) ?_
                                                                                                                                                                                                    refine lv_aload_nN hx hb dX11_provedShare_21 rfl (lv_at hl 0 rfl) ?_
                                                                                                                                                                                                    refine lv_ifnullN (tgt := 36) hx hb dX11_provedShare_22 (by decide) ?_
                                                                                                                                                                                                    refine lv_iconst (v := 0) hx hb dX11_provedShare_36 (by decide) ?_
                                                                                                                                                                                                    refine lv_iadd hx hb dX11_provedShare_37 ?_
                                                                                                                                                                                                    refine lv_topi (fun x_387 e_387 => ?_)
                                                                                                                                                                                                    obtain rfl : x_387 = 0 := e_387.trans (by decide)
                                                                                                                                                                                                    refine lv_istore_n (lv' := [(1, .int 0), (3, .null), (2, .int 96), (0, .ref (h 0))]) hx hb dX11_provedShare_38 rfl hl (by decide) rfl (fun ls hl => ?_)
                                                                                                                                                                                                    refine lv_iinc (v := 97) (lv' := [(2, .int 97), (1, .int 0), (3, .null), (0, .ref (h 0))]) hx hb dX11_provedShare_39 hl (k := 2) rfl (by decide) (by decide) rfl (fun ls hl => ?_)
                                                                                                                                                                                                    refine lv_goto (tgt := 4) hx hb dX11_provedShare_42 (by decide) ?_
                                                                                                                                                                                                    refine lv_iload_n hx hb dX11_provedShare_4 rfl (lv_at hl 0 rfl) ?_
                                                                                                                                                                                                    refine lv_bipush (v := 100) hx hb dX11_provedShare_5 (by decide) ?_
                                                                                                                                                                                                    refine lv_icmp_ge (tgt := 45) hx hb dX11_provedShare_7 (by decide) (fun c_389 => ?_) (fun c_389 => ?_)
                                                                                                                                                                                                    · skip
                                                                                                                                                                                                      exact absurd c_389 (by decide)
                                                                                                                                                                                                    · skip
                                                                                                                                                                                                      refine lv_aload_n hx hb dX11_provedShare_10 rfl (lv_at hl 3 rfl) ?_
                                                                                                                                                                                                      refine va_get (D := D) (ci := 11) (v := .ref (h 1)) (C := RX11) (T := TX11) (N := 15) hx hb ht zinX11 hown hK hP 0 rfl rfl 0 (by decide) (ht _ zw_353) (fun _ h9 => h9) rfl dX11_provedShare_11 ?_
                                                                                                                                                                                                      refine va_get (D := D) (ci := 8) (v := .ref (h 4)) (C := RX8) (T := TX8) (N := 11) hx hb ht zinX8 hown hK hP 1 rfl rfl 3 (by decide) (ht _ zw_470) (fun _ h9 => h9) rfl dX11_provedShare_14 ?_
                                                                                                                                                                                                      refine lv_iload_n hx hb dX11_provedShare_17 rfl (lv_at hl 0 rfl) ?_
                                                                                                                                                                                                      refine va_aldq hx hb hK hP 2 0 rfl rfl (vp_in_iff.mpr (by decide)) dX11_provedShare_18 ?_
                                                                                                                                                                                                      refine W.eq (g2 := F0 m 19 ls (.null :: [])) rfl ?_
                                                                                                                                                                                                      refine lv_astore_nN (lv' := [(3, .null), (2, .int 97), (1, .int 0), (0, .ref (h 0))]) hx hb dX11_provedShare_19 rfl hl (by decide) rfl (fun ls hl => ?_)
                                                                                                                                                                                                      refine lv_iload_n hx hb dX11_provedShare_20 rfl (lv_at hl 2 rfl) ?_
                                                                                                                                                                                                      refine lv_aload_nN hx hb dX11_provedShare_21 rfl (lv_at hl 0 rfl) ?_
                                                                                                                                                                                                      refine lv_ifnullN (tgt := 36) hx hb dX11_provedShare_22 (by decide) ?_
                                                                                                                                                                                                      refine lv_iconst (v := 0) hx hb dX11_provedShare_36 (by decide) ?_
                                                                                                                                                                                                      refine lv_iadd hx hb dX11_provedShare_37 ?_
                                                                                                                                                                                                      refine lv_topi (fun x_391 e_391 => ?_)
                                                                                                                                                                                                      obtain rfl : x_391 = 0 := e_391.trans (by decide)
                                                                                                                                                                                                      refine lv_istore_n (lv' := [(1, .int 0), (3, .null), (2, .int 97), (0, .ref (h 0))]) hx hb dX11_provedShare_38 rfl hl (by decide) rfl (fun ls hl => ?_)
                                                                                                                                                                                                      refine lv_iinc (v := 98) (lv' := [(2, .int 98), (1, .int 0), (3, .null), (0, .ref (h 0))]) hx hb dX11_provedShare_39 hl (k := 2) rfl (by decide) (by decide) rfl (fun ls hl => ?_)
                                                                                                                                                                                                      refine lv_goto (tgt := 4) hx hb dX11_provedShare_42 (by decide) ?_
                                                                                                                                                                                                      refine lv_iload_n hx hb dX11_provedShare_4 rfl (lv_at hl 0 rfl) ?_
                                                                                                                                                                                                      refine lv_bipush (v := 100) hx hb dX11_provedShare_5 (by decide) ?_
                                                                                                                                                                                                      refine lv_icmp_ge (tgt := 45) hx hb dX11_provedShare_7 (by decide) (fun c_393 => ?_) (fun c_393 => ?_)
                                                                                                                                                                                                      · skip
                                                                                                                                                                                                        exact absurd c_393 (by decide)
                                                                                                                                                                                                      · skip
                                                                                                                                                                                                        refine lv_aload_n hx hb dX11_provedShare_10 rfl (lv_at hl 3 rfl) ?_
                                                                                                                                                                                                        refine va_get (D := D) (ci := 11) (v := .ref (h 1)) (C := RX11) (T := TX11) (N := 15) hx hb ht zinX11 hown hK hP 0 rfl rfl 0 (by decide) (ht _ zw_353) (fun _ h9 => h9) rfl dX11_provedShare_11 ?_
                                                                                                                                                                                                        refine va_get (D := D) (ci := 8) (v := .ref (h 4)) (C := RX8) (T := TX8) (N := 11) hx hb ht zinX8 hown hK hP 1 rfl rfl 3 (by decide) (ht _ zw_470) (fun _ h9 => h9) rfl dX11_provedShare_14 ?_
                                                                                                                                                                                                        refine lv_iload_n hx hb dX11_provedShare_17 rfl (lv_at hl 0 rfl) ?_
                                                                                                                                                                                                        refine va_aldq hx hb hK hP 2 0 rfl rfl (vp_in_iff.mpr (by decide)) dX11_provedShare_18 ?_
                                                                                                                                                                                                        refine W.eq (g2 := F0 m 19 ls (.null :: [])) rfl ?_
                                                                                                                                                                                                        refine lv_astore_nN (lv' := [(3, .null), (2, .int 98), (1, .int 0), (0, .ref (h 0))]) hx hb dX11_provedShare_19 rfl hl (by decide) rfl (fun ls hl => ?_)
                                                                                                                                                                                                        refine lv_iload_n hx hb dX11_provedShare_20 rfl (lv_at hl 2 rfl) ?_
                                                                                                                                                                                                        refine lv_aload_nN hx hb dX11_provedShare_21 rfl (lv_at hl 0 rfl) ?_
                                                                                                                                                                                                        refine lv_ifnullN (tgt := 36) hx hb dX11_provedShare_22 (by decide) ?_
                                                                                                                                                                                                        refine lv_iconst (v := 0) hx hb dX11_provedShare_36 (by decide) ?_
                                                                                                                                                                                                        refine lv_iadd hx hb dX11_provedShare_37 ?_
                                                                                                                                                                                                        refine lv_topi (fun x_395 e_395 => ?_)
                                                                                                                                                                                                        obtain rfl : x_395 = 0 := e_395.trans (by decide)
                                                                                                                                                                                                        refine lv_istore_n (lv' := [(1, .int 0), (3, .null), (2, .int 98), (0, .ref (h 0))]) hx hb dX11_provedShare_38 rfl hl (by decide) rfl (fun ls hl => ?_)
                                                                                                                                                                                                        refine lv_iinc (v := 99) (lv' := [(2, .int 99), (1, .int 0), (3, .null), (0, .ref (h 0))]) hx hb dX11_provedShare_39 hl (k := 2) rfl (by decide) (by decide) rfl (fun ls hl => ?_)
                                                                                                                                                                                                        refine lv_goto (tgt := 4) hx hb dX11_provedShare_42 (by decide) ?_
                                                                                                                                                                                                        refine lv_iload_n hx hb dX11_provedShare_4 rfl (lv_at hl 0 rfl) ?_
                                                                                                                                                                                                        refine lv_bipush (v := 100) hx hb dX11_provedShare_5 (by decide) ?_
                                                                                                                                                                                                        refine lv_icmp_ge (tgt := 45) hx hb dX11_provedShare_7 (by decide) (fun c_397 => ?_) (fun c_397 => ?_)
                                                                                                                                                                                                        · skip
                                                                                                                                                                                                          exact absurd c_397 (by decide)
                                                                                                                                                                                                        · skip
                                                                                                                                                                                                          refine lv_aload_n hx hb dX11_provedShare_10 rfl (lv_at hl 3 rfl) ?_
                                                                                                                                                                                                          refine va_get (D := D) (ci := 11) (v := .ref (h 1)) (C := RX11) (T := TX11) (N := 15) hx hb ht zinX11 hown hK hP 0 rfl rfl 0 (by decide) (ht _ zw_353) (fun _ h9 => h9) rfl dX11_provedShare_11 ?_
                                                                                                                                                                                                          refine va_get (D := D) (ci := 8) (v := .ref (h 4)) (C := RX8) (T := TX8) (N := 11) hx hb ht zinX8 hown hK hP 1 rfl rfl 3 (by decide) (ht _ zw_470) (fun _ h9 => h9) rfl dX11_provedShare_14 ?_
                                                                                                                                                                                                          refine lv_iload_n hx hb dX11_provedShare_17 rfl (lv_at hl 0 rfl) ?_
                                                                                                                                                                                                          refine va_aldq hx hb hK hP 2 0 rfl rfl (vp_in_iff.mpr (by decide)) dX11_provedShare_18 ?_
                                                                                                                                                                                                          refine W.eq (g2 := F0 m 19 ls (.null :: [])) rfl ?_
                                                                                                                                                                                                          refine lv_astore_nN (lv' := [(3, .null), (2, .int 99), (1, .int 0), (0, .ref (h 0))]) hx hb dX11_provedShare_19 rfl hl (by decide) rfl (fun ls hl => ?_)
                                                                                                                                                                                                          refine lv_iload_n hx hb dX11_provedShare_20 rfl (lv_at hl 2 rfl) ?_
                                                                                                                                                                                                          refine lv_aload_nN hx hb dX11_provedShare_21 rfl (lv_at hl 0 rfl) ?_
                                                                                                                                                                                                          refine lv_ifnullN (tgt := 36) hx hb dX11_provedShare_22 (by decide) ?_
                                                                                                                                                                                                          refine lv_iconst (v := 0) hx hb dX11_provedShare_36 (by decide) ?_
                                                                                                                                                                                                          refine lv_iadd hx hb dX11_provedShare_37 ?_
                                                                                                                                                                                                          refine lv_topi (fun x_399 e_399 => ?_)
                                                                                                                                                                                                          obtain rfl : x_399 = 0 := e_399.trans (by decide)
                                                                                                                                                                                                          refine lv_istore_n (lv' := [(1, .int 0), (3, .null), (2, .int 99), (0, .ref (h 0))]) hx hb dX11_provedShare_38 rfl hl (by decide) rfl (fun ls hl => ?_)
                                                                                                                                                                                                          refine lv_iinc (v := 100) (lv' := [(2, .int 100), (1, .int 0), (3, .null), (0, .ref (h 0))]) hx hb dX11_provedShare_39 hl (k := 2) rfl (by decide) (by decide) rfl (fun ls hl => ?_)
                                                                                                                                                                                                          refine lv_goto (tgt := 4) hx hb dX11_provedShare_42 (by decide) ?_
                                                                                                                                                                                                          refine lv_iload_n hx hb dX11_provedShare_4 rfl (lv_at hl 0 rfl) ?_
                                                                                                                                                                                                          refine lv_bipush (v := 100) hx hb dX11_provedShare_5 (by decide) ?_
                                                                                                                                                                                                          refine lv_icmp_ge (tgt := 45) hx hb dX11_provedShare_7 (by decide) (fun c_401 => ?_) (fun c_401 => ?_)
                                                                                                                                                                                                          · skip
                                                                                                                                                                                                            refine lv_aload_n hx hb dX11_provedShare_45 rfl (lv_at hl 3 rfl) ?_
                                                                                                                                                                                                            refine va_get (D := D) (ci := 11) (v := .ref (h 1)) (C := RX11) (T := TX11) (N := 15) hx hb ht zinX11 hown hK hP 0 rfl rfl 0 (by decide) (ht _ zw_353) (fun _ h9 => h9) rfl dX11_provedShare_46 ?_
                                                                                                                                                                                                            refine va_get (D := D) (ci := 8) (v := .int 0) (C := RX8) (T := TX8) (N := 11) hx hb ht zinX8 hown hK hP 1 rfl rfl 4 (by decide) (ht _ zw_468) (fun _ h9 => h9) rfl dX11_provedShare_49 ?_
                                                                                                                                                                                                            refine lv_if_ne (tgt := 59) hx hb dX11_provedShare_52 (by decide) (fun c_402 => ?_) (fun c_402 => ?_)
                                                                                                                                                                                                            · skip
                                                                                                                                                                                                              exact absurd c_402 (by decide)
                                                                                                                                                                                                            · skip
                                                                                                                                                                                                              refine lv_fconst0 hx hb dX11_provedShare_55 ?_
                                                                                                                                                                                                              refine lv_goto (tgt := 70) hx hb dX11_provedShare_56 (by decide) ?_
                                                                                                                                                                                                              have hP9 := hP.sub (ws' := []) [] rfl
                                                                                                                                                                                                              have hD9 := hD.sub (ws' := []) [] (by decide) rfl
                                                                                                                                                                                                              have hK9 := hK.sub (tys' := []) [] rfl
                                                                                                                                                                                                              refine W.widen (k := 0) (n := 0) (Nat.le_of_ble_eq_true rfl) (Nat.le_of_ble_eq_true rfl) ?_
                                                                                                                                                                                                              exact W.fret (v := FP.fconst0) hx hb hr (fun t ht0 hW => ⟨⟨FP.fconst0, (), rfl, rfl, (zE_of hP9 hK9 hD9 ht0 hW)⟩, hS.F ht0⟩) hS.2.2 dX11_provedShare_70
                                                                                                                                                                                                          · skip
                                                                                                                                                                                                            exact absurd c_401 (by decide)
