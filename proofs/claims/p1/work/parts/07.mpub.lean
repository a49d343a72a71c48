abbrev cX12_term : ByteArray := prog_14_method_54_code
def yX12_term : MethodName := ⟨RX12, "term", "(IIII)I"⟩
theorem dX12_term_0 : decode cX12_term 0 = .ok (.aload_n 0, 1) := by decide +kernel
theorem dX12_term_1 : decode cX12_term 1 = .ok (.iload_n 1, 1) := by decide +kernel
theorem zw_59 : Cond.methodLink RX12 225 yX12_isRegister ∈ zT := zT_of 1592 (by decide +kernel) (by decide +kernel)
theorem zw_60 : Cond.static yX12_isRegister ∈ zT := zT_of 1593 (by decide +kernel) (by decide +kernel)
theorem zw_61 : Cond.code yX12_isRegister cX12_isRegister 1 (some .boolean) ∈ zT := zT_of 1594 (by decide +kernel) (by decide +kernel)
theorem dX12_term_2 : decode cX12_term 2 = .ok (.invokestatic 225, 3) := by decide +kernel
theorem dX12_term_5 : decode cX12_term 5 = .ok (.ifCond .eq 23, 3) := by decide +kernel
theorem dX12_term_8 : decode cX12_term 8 = .ok (.iload_n 2, 1) := by decide +kernel
theorem dX12_term_9 : decode cX12_term 9 = .ok (.iconst 0, 1) := by decide +kernel
theorem dX12_term_10 : decode cX12_term 10 = .ok (.aload_n 0, 1) := by decide +kernel
theorem dX12_term_11 : decode cX12_term 11 = .ok (.getfield 9, 3) := by decide +kernel
theorem dX12_term_14 : decode cX12_term 14 = .ok (.iconst 0, 1) := by decide +kernel
theorem dX12_term_15 : decode cX12_term 15 = .ok (.iaload, 1) := by decide +kernel
theorem dX12_term_16 : decode cX12_term 16 = .ok (.iconst 1, 1) := by decide +kernel
theorem dX12_term_17 : decode cX12_term 17 = .ok (.isub, 1) := by decide +kernel
theorem dX12_term_18 : decode cX12_term 18 = .ok (.invokestatic 60, 3) := by decide +kernel
theorem dX12_term_21 : decode cX12_term 21 = .ok (.ifCond .eq 7, 3) := by decide +kernel
theorem dX12_term_28 : decode cX12_term 28 = .ok (.iconst 0, 1) := by decide +kernel
theorem zw_62 : Cond.methodLink RX12 215 yX12_lacks ∈ zT := zT_of 1575 (by decide +kernel) (by decide +kernel)
theorem zw_63 : Cond.instanceMethod yX12_lacks ∈ zT := zT_of 1577 (by decide +kernel) (by decide +kernel)
theorem zw_64 : Cond.selects RX12 yX12_lacks yX12_lacks ∈ zT := zT_ofS 36 (by decide +kernel) (by decide +kernel)
theorem zw_65 : Cond.code yX12_lacks cX12_lacks 2 (some .boolean) ∈ zT := zT_of 1578 (by decide +kernel) (by decide +kernel)
theorem dX12_term_29 : decode cX12_term 29 = .ok (.invokevirtual 215, 3) := by decide +kernel
theorem dX12_term_32 : decode cX12_term 32 = .ok (.ifCond .eq 5, 3) := by decide +kernel
theorem dX12_term_35 : decode cX12_term 35 = .ok (.iconst 0, 1) := by decide +kernel
theorem dX12_term_36 : decode cX12_term 36 = .ok (.ireturn, 1) := by decide +kernel
abbrev cX12_law : ByteArray := prog_14_method_58_code
def yX12_law : MethodName := ⟨RX12, "law", "(IIII)I"⟩
theorem dX12_law_0 : decode cX12_law 0 = .ok (.aload_n 0, 1) := by decide +kernel
theorem dX12_law_1 : decode cX12_law 1 = .ok (.iload_n 1, 1) := by decide +kernel
theorem zw_66 : Cond.methodLink RX12 176 yX12_isName ∈ zT := zT_of 1663 (by decide +kernel) (by decide +kernel)
theorem zw_67 : Cond.static yX12_isName ∈ zT := zT_of 1664 (by decide +kernel) (by decide +kernel)
theorem zw_68 : Cond.code yX12_isName cX12_isName 1 (some .boolean) ∈ zT := zT_of 1665 (by decide +kernel) (by decide +kernel)
theorem dX12_law_2 : decode cX12_law 2 = .ok (.invokestatic 176, 3) := by decide +kernel
theorem dX12_law_5 : decode cX12_law 5 = .ok (.ifCond .eq 16, 3) := by decide +kernel
theorem dX12_law_8 : decode cX12_law 8 = .ok (.iload_n 3, 1) := by decide +kernel
theorem dX12_law_9 : decode cX12_law 9 = .ok (.iconst 0, 1) := by decide +kernel
theorem dX12_law_10 : decode cX12_law 10 = .ok (.iconst 1, 1) := by decide +kernel
theorem dX12_law_11 : decode cX12_law 11 = .ok (.invokestatic 60, 3) := by decide +kernel
theorem dX12_law_14 : decode cX12_law 14 = .ok (.ifCond .eq 7, 3) := by decide +kernel
theorem dX12_law_17 : decode cX12_law 17 = .ok (.iconst 1, 1) := by decide +kernel
theorem dX12_law_18 : decode cX12_law 18 = .ok (.goto 4, 3) := by decide +kernel
theorem dX12_law_22 : decode cX12_law 22 = .ok (.invokevirtual 215, 3) := by decide +kernel
theorem dX12_law_25 : decode cX12_law 25 = .ok (.ifCond .ne 31, 3) := by decide +kernel
theorem dX12_law_28 : decode cX12_law 28 = .ok (.aload_n 0, 1) := by decide +kernel
theorem dX12_law_29 : decode cX12_law 29 = .ok (.iload_n 2, 1) := by decide +kernel
theorem dX12_law_30 : decode cX12_law 30 = .ok (.invokestatic 225, 3) := by decide +kernel
theorem dX12_law_33 : decode cX12_law 33 = .ok (.ifCond .eq 15, 3) := by decide +kernel
theorem dX12_law_36 : decode cX12_law 36 = .ok (.iload 4, 2) := by decide +kernel
theorem dX12_law_38 : decode cX12_law 38 = .ok (.invokestatic 225, 3) := by decide +kernel
theorem dX12_law_41 : decode cX12_law 41 = .ok (.ifCond .eq 7, 3) := by decide +kernel
theorem dX12_law_44 : decode cX12_law 44 = .ok (.iconst 1, 1) := by decide +kernel
theorem dX12_law_45 : decode cX12_law 45 = .ok (.goto 4, 3) := by decide +kernel
theorem dX12_law_49 : decode cX12_law 49 = .ok (.iconst 2, 1) := by decide +kernel
theorem dX12_law_50 : decode cX12_law 50 = .ok (.invokevirtual 56, 3) := by decide +kernel
theorem dX12_law_53 : decode cX12_law 53 = .ok (.ifCond .eq 5, 3) := by decide +kernel
theorem dX12_law_58 : decode cX12_law 58 = .ok (.aload_n 0, 1) := by decide +kernel
theorem dX12_law_59 : decode cX12_law 59 = .ok (.aload_n 0, 1) := by decide +kernel
theorem dX12_law_60 : decode cX12_law 60 = .ok (.iload_n 2, 1) := by decide +kernel
theorem zw_69 : Cond.methodLink RX12 222 yX12_isFull ∈ zT := zT_of 1603 (by decide +kernel) (by decide +kernel)
theorem zw_70 : Cond.instanceMethod yX12_isFull ∈ zT := zT_of 1605 (by decide +kernel) (by decide +kernel)
theorem zw_71 : Cond.selects RX12 yX12_isFull yX12_isFull ∈ zT := zT_ofS 41 (by decide +kernel) (by decide +kernel)
theorem zw_72 : Cond.code yX12_isFull cX12_isFull 2 (some .boolean) ∈ zT := zT_of 1606 (by decide +kernel) (by decide +kernel)
theorem dX12_law_61 : decode cX12_law 61 = .ok (.invokevirtual 222, 3) := by decide +kernel
theorem dX12_law_64 : decode cX12_law 64 = .ok (.ifCond .eq 33, 3) := by decide +kernel
theorem dX12_law_97 : decode cX12_law 97 = .ok (.iconst 0, 1) := by decide +kernel
theorem dX12_law_98 : decode cX12_law 98 = .ok (.iconst 3, 1) := by decide +kernel
theorem dX12_law_99 : decode cX12_law 99 = .ok (.invokevirtual 56, 3) := by decide +kernel
theorem dX12_law_102 : decode cX12_law 102 = .ok (.ifCond .eq 5, 3) := by decide +kernel
theorem dX12_law_105 : decode cX12_law 105 = .ok (.iconst 0, 1) := by decide +kernel
theorem dX12_law_106 : decode cX12_law 106 = .ok (.ireturn, 1) := by decide +kernel
theorem dX12_law_48 : decode cX12_law 48 = .ok (.iconst 0, 1) := by decide +kernel
theorem dX12_law_56 : decode cX12_law 56 = .ok (.iconst 0, 1) := by decide +kernel
theorem dX12_law_57 : decode cX12_law 57 = .ok (.ireturn, 1) := by decide +kernel
theorem dX12_law_21 : decode cX12_law 21 = .ok (.iconst 0, 1) := by decide +kernel
abbrev cX12_condition : ByteArray := prog_14_method_61_code
def yX12_condition : MethodName := ⟨RX12, "condition", "(III)Z"⟩
theorem dX12_condition_0 : decode cX12_condition 0 = .ok (.aload_n 0, 1) := by decide +kernel
theorem dX12_condition_1 : decode cX12_condition 1 = .ok (.iload_n 1, 1) := by decide +kernel
theorem zw_73 : Cond.methodLink RX12 116 yX12_atLaw ∈ zT := zT_of 1670 (by decide +kernel) (by decide +kernel)
theorem zw_74 : Cond.instanceMethod yX12_atLaw ∈ zT := zT_of 1672 (by decide +kernel) (by decide +kernel)
theorem zw_75 : Cond.selects RX12 yX12_atLaw yX12_atLaw ∈ zT := zT_ofS 53 (by decide +kernel) (by decide +kernel)
theorem zw_76 : Cond.code yX12_atLaw cX12_atLaw 3 (some .int) ∈ zT := zT_of 1673 (by decide +kernel) (by decide +kernel)
theorem dX12_condition_2 : decode cX12_condition 2 = .ok (.invokevirtual 116, 3) := by decide +kernel
theorem dX12_condition_5 : decode cX12_condition 5 = .ok (.istore 4, 2) := by decide +kernel
theorem dX12_condition_7 : decode cX12_condition 7 = .ok (.aload_n 0, 1) := by decide +kernel
theorem dX12_condition_8 : decode cX12_condition 8 = .ok (.iload 4, 2) := by decide +kernel
theorem dX12_condition_10 : decode cX12_condition 10 = .ok (.iconst (-1), 1) := by decide +kernel
theorem dX12_condition_11 : decode cX12_condition 11 = .ok (.if_icmp .eq 7, 3) := by decide +kernel
theorem dX12_condition_18 : decode cX12_condition 18 = .ok (.iconst 0, 1) := by decide +kernel
theorem dX12_condition_19 : decode cX12_condition 19 = .ok (.invokevirtual 215, 3) := by decide +kernel
theorem dX12_condition_22 : decode cX12_condition 22 = .ok (.ifCond .ne 30, 3) := by decide +kernel
theorem dX12_condition_52 : decode cX12_condition 52 = .ok (.iconst 0, 1) := by decide +kernel
theorem dX12_condition_53 : decode cX12_condition 53 = .ok (.ireturn, 1) := by decide +kernel
abbrev cX12_equivalence : ByteArray := prog_14_method_62_code
def yX12_equivalence : MethodName := ⟨RX12, "equivalence", "(IIIII)I"⟩
theorem dX12_equivalence_0 : decode cX12_equivalence 0 = .ok (.aload_n 0, 1) := by decide +kernel
theorem dX12_equivalence_1 : decode cX12_equivalence 1 = .ok (.iload_n 1, 1) := by decide +kernel
theorem dX12_equivalence_2 : decode cX12_equivalence 2 = .ok (.invokestatic 176, 3) := by decide +kernel
theorem dX12_equivalence_5 : decode cX12_equivalence 5 = .ok (.invokevirtual 215, 3) := by decide +kernel
theorem dX12_equivalence_8 : decode cX12_equivalence 8 = .ok (.ifCond .ne 46, 3) := by decide +kernel
theorem dX12_equivalence_11 : decode cX12_equivalence 11 = .ok (.aload_n 0, 1) := by decide +kernel
theorem dX12_equivalence_12 : decode cX12_equivalence 12 = .ok (.iload_n 2, 1) := by decide +kernel
theorem dX12_equivalence_13 : decode cX12_equivalence 13 = .ok (.invokestatic 225, 3) := by decide +kernel
theorem dX12_equivalence_16 : decode cX12_equivalence 16 = .ok (.ifCond .eq 30, 3) := by decide +kernel
theorem dX12_equivalence_19 : decode cX12_equivalence 19 = .ok (.iload_n 3, 1) := by decide +kernel
theorem dX12_equivalence_20 : decode cX12_equivalence 20 = .ok (.invokestatic 225, 3) := by decide +kernel
theorem dX12_equivalence_23 : decode cX12_equivalence 23 = .ok (.ifCond .eq 23, 3) := by decide +kernel
theorem dX12_equivalence_26 : decode cX12_equivalence 26 = .ok (.iload 4, 2) := by decide +kernel
theorem dX12_equivalence_28 : decode cX12_equivalence 28 = .ok (.invokestatic 225, 3) := by decide +kernel
theorem dX12_equivalence_31 : decode cX12_equivalence 31 = .ok (.ifCond .eq 15, 3) := by decide +kernel
theorem dX12_equivalence_34 : decode cX12_equivalence 34 = .ok (.iload 5, 2) := by decide +kernel
theorem dX12_equivalence_36 : decode cX12_equivalence 36 = .ok (.invokestatic 225, 3) := by decide +kernel
theorem dX12_equivalence_39 : decode cX12_equivalence 39 = .ok (.ifCond .eq 7, 3) := by decide +kernel
theorem dX12_equivalence_42 : decode cX12_equivalence 42 = .ok (.iconst 1, 1) := by decide +kernel
theorem dX12_equivalence_43 : decode cX12_equivalence 43 = .ok (.goto 4, 3) := by decide +kernel
theorem dX12_equivalence_47 : decode cX12_equivalence 47 = .ok (.iconst 2, 1) := by decide +kernel
theorem dX12_equivalence_48 : decode cX12_equivalence 48 = .ok (.invokevirtual 56, 3) := by decide +kernel
theorem dX12_equivalence_51 : decode cX12_equivalence 51 = .ok (.ifCond .eq 5, 3) := by decide +kernel
theorem dX12_equivalence_56 : decode cX12_equivalence 56 = .ok (.aload_n 0, 1) := by decide +kernel
theorem dX12_equivalence_57 : decode cX12_equivalence 57 = .ok (.aload_n 0, 1) := by decide +kernel
theorem dX12_equivalence_58 : decode cX12_equivalence 58 = .ok (.iload_n 2, 1) := by decide +kernel
theorem dX12_equivalence_59 : decode cX12_equivalence 59 = .ok (.invokevirtual 222, 3) := by decide +kernel
theorem dX12_equivalence_62 : decode cX12_equivalence 62 = .ok (.ifCond .eq 53, 3) := by decide +kernel
theorem dX12_equivalence_115 : decode cX12_equivalence 115 = .ok (.iconst 0, 1) := by decide +kernel
theorem dX12_equivalence_116 : decode cX12_equivalence 116 = .ok (.iconst 3, 1) := by decide +kernel
theorem dX12_equivalence_117 : decode cX12_equivalence 117 = .ok (.invokevirtual 56, 3) := by decide +kernel
theorem dX12_equivalence_120 : decode cX12_equivalence 120 = .ok (.ifCond .eq 5, 3) := by decide +kernel
theorem dX12_equivalence_123 : decode cX12_equivalence 123 = .ok (.iconst 0, 1) := by decide +kernel
theorem dX12_equivalence_124 : decode cX12_equivalence 124 = .ok (.ireturn, 1) := by decide +kernel
theorem dX12_equivalence_46 : decode cX12_equivalence 46 = .ok (.iconst 0, 1) := by decide +kernel
theorem dX12_equivalence_54 : decode cX12_equivalence 54 = .ok (.iconst 0, 1) := by decide +kernel
theorem dX12_equivalence_55 : decode cX12_equivalence 55 = .ok (.ireturn, 1) := by decide +kernel
abbrev cX12_assume : ByteArray := prog_14_method_63_code
def yX12_assume : MethodName := ⟨RX12, "assume", "(II)I"⟩
theorem dX12_assume_0 : decode cX12_assume 0 = .ok (.aload_n 0, 1) := by decide +kernel
theorem dX12_assume_1 : decode cX12_assume 1 = .ok (.iload_n 1, 1) := by decide +kernel
theorem dX12_assume_2 : decode cX12_assume 2 = .ok (.invokestatic 225, 3) := by decide +kernel
theorem dX12_assume_5 : decode cX12_assume 5 = .ok (.ifCond .eq 14, 3) := by decide +kernel
theorem dX12_assume_8 : decode cX12_assume 8 = .ok (.iload_n 2, 1) := by decide +kernel
theorem dX12_assume_9 : decode cX12_assume 9 = .ok (.invokestatic 225, 3) := by decide +kernel
theorem dX12_assume_12 : decode cX12_assume 12 = .ok (.ifCond .eq 7, 3) := by decide +kernel
theorem dX12_assume_15 : decode cX12_assume 15 = .ok (.iconst 1, 1) := by decide +kernel
theorem dX12_assume_16 : decode cX12_assume 16 = .ok (.goto 4, 3) := by decide +kernel
theorem dX12_assume_20 : decode cX12_assume 20 = .ok (.invokevirtual 215, 3) := by decide +kernel
theorem dX12_assume_23 : decode cX12_assume 23 = .ok (.ifCond .ne 40, 3) := by decide +kernel
theorem dX12_assume_26 : decode cX12_assume 26 = .ok (.aload_n 0, 1) := by decide +kernel
theorem dX12_assume_27 : decode cX12_assume 27 = .ok (.aload_n 0, 1) := by decide +kernel
theorem dX12_assume_28 : decode cX12_assume 28 = .ok (.iload_n 1, 1) := by decide +kernel
theorem dX12_assume_29 : decode cX12_assume 29 = .ok (.invokevirtual 222, 3) := by decide +kernel
theorem dX12_assume_32 : decode cX12_assume 32 = .ok (.ifCond .eq 23, 3) := by decide +kernel
theorem dX12_assume_55 : decode cX12_assume 55 = .ok (.iconst 0, 1) := by decide +kernel
theorem dX12_assume_56 : decode cX12_assume 56 = .ok (.iconst 2, 1) := by decide +kernel
theorem dX12_assume_57 : decode cX12_assume 57 = .ok (.invokevirtual 56, 3) := by decide +kernel
theorem dX12_assume_60 : decode cX12_assume 60 = .ok (.ifCond .eq 5, 3) := by decide +kernel
theorem dX12_assume_63 : decode cX12_assume 63 = .ok (.iconst 0, 1) := by decide +kernel
theorem dX12_assume_64 : decode cX12_assume 64 = .ok (.ireturn, 1) := by decide +kernel
theorem dX12_assume_19 : decode cX12_assume 19 = .ok (.iconst 0, 1) := by decide +kernel
abbrev cX12_giveUp : ByteArray := prog_14_method_64_code
def yX12_giveUp : MethodName := ⟨RX12, "giveUp", "()I"⟩
theorem dX12_giveUp_0 : decode cX12_giveUp 0 = .ok (.aload_n 0, 1) := by decide +kernel
theorem dX12_giveUp_1 : decode cX12_giveUp 1 = .ok (.aload_n 0, 1) := by decide +kernel
theorem dX12_giveUp_2 : decode cX12_giveUp 2 = .ok (.invokevirtual 135, 3) := by decide +kernel
theorem dX12_giveUp_5 : decode cX12_giveUp 5 = .ok (.ifCond .le 7, 3) := by decide +kernel
theorem dX12_giveUp_12 : decode cX12_giveUp 12 = .ok (.iconst 0, 1) := by decide +kernel
theorem dX12_giveUp_13 : decode cX12_giveUp 13 = .ok (.invokevirtual 215, 3) := by decide +kernel
theorem dX12_giveUp_16 : decode cX12_giveUp 16 = .ok (.ifCond .eq 5, 3) := by decide +kernel
theorem dX12_giveUp_19 : decode cX12_giveUp 19 = .ok (.iconst 0, 1) := by decide +kernel
theorem dX12_giveUp_20 : decode cX12_giveUp 20 = .ok (.ireturn, 1) := by decide +kernel
abbrev cX12_lemma : ByteArray := prog_14_method_69_code
def yX12_lemma : MethodName := ⟨RX12, "lemma", "(II)I"⟩
theorem dX12_lemma_0 : decode cX12_lemma 0 = .ok (.aload_n 0, 1) := by decide +kernel
theorem dX12_lemma_1 : decode cX12_lemma 1 = .ok (.iload_n 1, 1) := by decide +kernel
theorem dX12_lemma_2 : decode cX12_lemma 2 = .ok (.invokestatic 176, 3) := by decide +kernel
theorem dX12_lemma_5 : decode cX12_lemma 5 = .ok (.invokevirtual 215, 3) := by decide +kernel
theorem dX12_lemma_8 : decode cX12_lemma 8 = .ok (.ifCond .ne 30, 3) := by decide +kernel
theorem dX12_lemma_11 : decode cX12_lemma 11 = .ok (.aload_n 0, 1) := by decide +kernel
theorem dX12_lemma_12 : decode cX12_lemma 12 = .ok (.iload_n 2, 1) := by decide +kernel
theorem zw_77 : Cond.methodLink RX12 265 yX12_isChain ∈ zT := zT_of 1725 (by decide +kernel) (by decide +kernel)
theorem zw_78 : Cond.static yX12_isChain ∈ zT := zT_of 1726 (by decide +kernel) (by decide +kernel)
theorem zw_79 : Cond.code yX12_isChain cX12_isChain 1 (some .boolean) ∈ zT := zT_of 1727 (by decide +kernel) (by decide +kernel)
theorem dX12_lemma_13 : decode cX12_lemma 13 = .ok (.invokestatic 265, 3) := by decide +kernel
theorem dX12_lemma_16 : decode cX12_lemma 16 = .ok (.iconst 2, 1) := by decide +kernel
theorem dX12_lemma_17 : decode cX12_lemma 17 = .ok (.invokevirtual 56, 3) := by decide +kernel
theorem dX12_lemma_20 : decode cX12_lemma 20 = .ok (.ifCond .ne 18, 3) := by decide +kernel
theorem dX12_lemma_23 : decode cX12_lemma 23 = .ok (.aload_n 0, 1) := by decide +kernel
theorem dX12_lemma_24 : decode cX12_lemma 24 = .ok (.aload_n 0, 1) := by decide +kernel
theorem dX12_lemma_25 : decode cX12_lemma 25 = .ok (.iload_n 1, 1) := by decide +kernel
theorem dX12_lemma_26 : decode cX12_lemma 26 = .ok (.iload_n 2, 1) := by decide +kernel
theorem dX12_lemma_27 : decode cX12_lemma 27 = .ok (.iconst 0, 1) := by decide +kernel
theorem zw_80 : Cond.methodLink RX12 268 yX12_canProve ∈ zT := zT_of 1728 (by decide +kernel) (by decide +kernel)
theorem zw_81 : Cond.instanceMethod yX12_canProve ∈ zT := zT_of 1730 (by decide +kernel) (by decide +kernel)
theorem zw_82 : Cond.selects RX12 yX12_canProve yX12_canProve ∈ zT := zT_ofS 61 (by decide +kernel) (by decide +kernel)
theorem zw_83 : Cond.code yX12_canProve cX12_canProve 4 (some .boolean) ∈ zT := zT_of 1731 (by decide +kernel) (by decide +kernel)
theorem dX12_lemma_28 : decode cX12_lemma 28 = .ok (.invokevirtual 268, 3) := by decide +kernel
theorem dX12_lemma_31 : decode cX12_lemma 31 = .ok (.iconst 3, 1) := by decide +kernel
theorem dX12_lemma_32 : decode cX12_lemma 32 = .ok (.invokevirtual 56, 3) := by decide +kernel
theorem dX12_lemma_35 : decode cX12_lemma 35 = .ok (.ifCond .eq 5, 3) := by decide +kernel
theorem dX12_lemma_38 : decode cX12_lemma 38 = .ok (.iconst 0, 1) := by decide +kernel
theorem dX12_lemma_39 : decode cX12_lemma 39 = .ok (.ireturn, 1) := by decide +kernel
abbrev cX12_cases : ByteArray := prog_14_method_72_code
def yX12_cases : MethodName := ⟨RX12, "cases", "(III)I"⟩
theorem dX12_cases_0 : decode cX12_cases 0 = .ok (.aload_n 0, 1) := by decide +kernel
theorem dX12_cases_1 : decode cX12_cases 1 = .ok (.iload_n 2, 1) := by decide +kernel
theorem dX12_cases_2 : decode cX12_cases 2 = .ok (.invokevirtual 116, 3) := by decide +kernel
theorem dX12_cases_5 : decode cX12_cases 5 = .ok (.istore 4, 2) := by decide +kernel
theorem dX12_cases_7 : decode cX12_cases 7 = .ok (.aload_n 0, 1) := by decide +kernel
theorem dX12_cases_8 : decode cX12_cases 8 = .ok (.iload_n 3, 1) := by decide +kernel
theorem dX12_cases_9 : decode cX12_cases 9 = .ok (.invokevirtual 116, 3) := by decide +kernel
theorem dX12_cases_12 : decode cX12_cases 12 = .ok (.istore 5, 2) := by decide +kernel
theorem dX12_cases_14 : decode cX12_cases 14 = .ok (.aload_n 0, 1) := by decide +kernel
theorem dX12_cases_15 : decode cX12_cases 15 = .ok (.iload_n 1, 1) := by decide +kernel
theorem dX12_cases_16 : decode cX12_cases 16 = .ok (.invokestatic 176, 3) := by decide +kernel
theorem dX12_cases_19 : decode cX12_cases 19 = .ok (.invokevirtual 215, 3) := by decide +kernel
theorem dX12_cases_22 : decode cX12_cases 22 = .ok (.ifCond .ne 74, 3) := by decide +kernel
theorem dX12_cases_25 : decode cX12_cases 25 = .ok (.aload_n 0, 1) := by decide +kernel
theorem dX12_cases_26 : decode cX12_cases 26 = .ok (.iload 4, 2) := by decide +kernel
theorem dX12_cases_28 : decode cX12_cases 28 = .ok (.iconst (-1), 1) := by decide +kernel
theorem dX12_cases_29 : decode cX12_cases 29 = .ok (.if_icmp .eq 13, 3) := by decide +kernel
theorem dX12_cases_42 : decode cX12_cases 42 = .ok (.iconst 0, 1) := by decide +kernel
theorem dX12_cases_43 : decode cX12_cases 43 = .ok (.iconst 2, 1) := by decide +kernel
theorem dX12_cases_44 : decode cX12_cases 44 = .ok (.invokevirtual 56, 3) := by decide +kernel
theorem dX12_cases_47 : decode cX12_cases 47 = .ok (.ifCond .ne 49, 3) := by decide +kernel
theorem dX12_cases_96 : decode cX12_cases 96 = .ok (.iconst 0, 1) := by decide +kernel
theorem dX12_cases_97 : decode cX12_cases 97 = .ok (.ireturn, 1) := by decide +kernel
abbrev cX12_begin : ByteArray := prog_14_method_74_code
def yX12_begin : MethodName := ⟨RX12, "begin", "(II)I"⟩
theorem dX12_begin_0 : decode cX12_begin 0 = .ok (.aload_n 0, 1) := by decide +kernel
theorem dX12_begin_1 : decode cX12_begin 1 = .ok (.iload_n 1, 1) := by decide +kernel
theorem dX12_begin_2 : decode cX12_begin 2 = .ok (.invokestatic 265, 3) := by decide +kernel
theorem dX12_begin_5 : decode cX12_begin 5 = .ok (.ifCond .eq 14, 3) := by decide +kernel
theorem dX12_begin_8 : decode cX12_begin 8 = .ok (.iload_n 2, 1) := by decide +kernel
theorem dX12_begin_9 : decode cX12_begin 9 = .ok (.invokestatic 225, 3) := by decide +kernel
theorem dX12_begin_12 : decode cX12_begin 12 = .ok (.ifCond .eq 7, 3) := by decide +kernel
theorem dX12_begin_15 : decode cX12_begin 15 = .ok (.iconst 1, 1) := by decide +kernel
theorem dX12_begin_16 : decode cX12_begin 16 = .ok (.goto 4, 3) := by decide +kernel
theorem dX12_begin_20 : decode cX12_begin 20 = .ok (.invokevirtual 215, 3) := by decide +kernel
theorem dX12_begin_23 : decode cX12_begin 23 = .ok (.ifCond .ne 16, 3) := by decide +kernel
theorem dX12_begin_26 : decode cX12_begin 26 = .ok (.aload_n 0, 1) := by decide +kernel
theorem dX12_begin_27 : decode cX12_begin 27 = .ok (.aload_n 0, 1) := by decide +kernel
theorem dX12_begin_28 : decode cX12_begin 28 = .ok (.iload_n 2, 1) := by decide +kernel
theorem dX12_begin_29 : decode cX12_begin 29 = .ok (.invokevirtual 222, 3) := by decide +kernel
theorem dX12_begin_32 : decode cX12_begin 32 = .ok (.iconst 2, 1) := by decide +kernel
theorem dX12_begin_33 : decode cX12_begin 33 = .ok (.invokevirtual 56, 3) := by decide +kernel
theorem dX12_begin_36 : decode cX12_begin 36 = .ok (.ifCond .eq 5, 3) := by decide +kernel
theorem dX12_begin_39 : decode cX12_begin 39 = .ok (.iconst 0, 1) := by decide +kernel
theorem dX12_begin_40 : decode cX12_begin 40 = .ok (.ireturn, 1) := by decide +kernel
theorem dX12_begin_19 : decode cX12_begin 19 = .ok (.iconst 0, 1) := by decide +kernel
abbrev cX12_line : ByteArray := prog_14_method_76_code
def yX12_line : MethodName := ⟨RX12, "line", "(III)I"⟩
theorem dX12_line_0 : decode cX12_line 0 = .ok (.aload_n 0, 1) := by decide +kernel
theorem dX12_line_1 : decode cX12_line 1 = .ok (.iload_n 1, 1) := by decide +kernel
theorem dX12_line_2 : decode cX12_line 2 = .ok (.invokestatic 265, 3) := by decide +kernel
theorem dX12_line_5 : decode cX12_line 5 = .ok (.ifCond .eq 14, 3) := by decide +kernel
theorem dX12_line_8 : decode cX12_line 8 = .ok (.iload_n 3, 1) := by decide +kernel
theorem dX12_line_9 : decode cX12_line 9 = .ok (.invokestatic 225, 3) := by decide +kernel
theorem dX12_line_12 : decode cX12_line 12 = .ok (.ifCond .eq 7, 3) := by decide +kernel
theorem dX12_line_15 : decode cX12_line 15 = .ok (.iconst 1, 1) := by decide +kernel
theorem dX12_line_16 : decode cX12_line 16 = .ok (.goto 4, 3) := by decide +kernel
theorem dX12_line_20 : decode cX12_line 20 = .ok (.invokevirtual 215, 3) := by decide +kernel
theorem dX12_line_23 : decode cX12_line 23 = .ok (.ifCond .ne 47, 3) := by decide +kernel
theorem dX12_line_26 : decode cX12_line 26 = .ok (.aload_n 0, 1) := by decide +kernel
theorem dX12_line_27 : decode cX12_line 27 = .ok (.iload_n 2, 1) := by decide +kernel
theorem dX12_line_28 : decode cX12_line 28 = .ok (.iconst 0, 1) := by decide +kernel
theorem dX12_line_29 : decode cX12_line 29 = .ok (.bipush 102, 2) := by decide +kernel
theorem dX12_line_31 : decode cX12_line 31 = .ok (.invokestatic 60, 3) := by decide +kernel
theorem dX12_line_34 : decode cX12_line 34 = .ok (.iconst 2, 1) := by decide +kernel
theorem dX12_line_35 : decode cX12_line 35 = .ok (.invokevirtual 56, 3) := by decide +kernel
theorem dX12_line_38 : decode cX12_line 38 = .ok (.ifCond .ne 32, 3) := by decide +kernel
theorem dX12_line_41 : decode cX12_line 41 = .ok (.aload_n 0, 1) := by decide +kernel
theorem dX12_line_42 : decode cX12_line 42 = .ok (.aload_n 0, 1) := by decide +kernel
theorem dX12_line_43 : decode cX12_line 43 = .ok (.iload_n 3, 1) := by decide +kernel
theorem dX12_line_44 : decode cX12_line 44 = .ok (.invokevirtual 222, 3) := by decide +kernel
theorem dX12_line_47 : decode cX12_line 47 = .ok (.ifCond .eq 15, 3) := by decide +kernel
theorem dX12_line_62 : decode cX12_line 62 = .ok (.iconst 0, 1) := by decide +kernel
theorem dX12_line_63 : decode cX12_line 63 = .ok (.iconst 3, 1) := by decide +kernel
theorem dX12_line_64 : decode cX12_line 64 = .ok (.invokevirtual 56, 3) := by decide +kernel
theorem dX12_line_67 : decode cX12_line 67 = .ok (.ifCond .eq 5, 3) := by decide +kernel
theorem dX12_line_70 : decode cX12_line 70 = .ok (.iconst 0, 1) := by decide +kernel
theorem dX12_line_71 : decode cX12_line 71 = .ok (.ireturn, 1) := by decide +kernel
theorem dX12_line_19 : decode cX12_line 19 = .ok (.iconst 0, 1) := by decide +kernel
abbrev cX12_step : ByteArray := prog_14_method_77_code
def yX12_step : MethodName := ⟨RX12, "step", "(III)I"⟩
theorem dX12_step_0 : decode cX12_step 0 = .ok (.aload_n 0, 1) := by decide +kernel
theorem dX12_step_1 : decode cX12_step 1 = .ok (.iload_n 1, 1) := by decide +kernel
theorem dX12_step_2 : decode cX12_step 2 = .ok (.invokestatic 265, 3) := by decide +kernel
theorem dX12_step_5 : decode cX12_step 5 = .ok (.ifCond .eq 14, 3) := by decide +kernel
theorem dX12_step_8 : decode cX12_step 8 = .ok (.iload_n 3, 1) := by decide +kernel
theorem dX12_step_9 : decode cX12_step 9 = .ok (.invokestatic 225, 3) := by decide +kernel
theorem dX12_step_12 : decode cX12_step 12 = .ok (.ifCond .eq 7, 3) := by decide +kernel
theorem dX12_step_15 : decode cX12_step 15 = .ok (.iconst 1, 1) := by decide +kernel
theorem dX12_step_16 : decode cX12_step 16 = .ok (.goto 4, 3) := by decide +kernel
theorem dX12_step_20 : decode cX12_step 20 = .ok (.invokevirtual 215, 3) := by decide +kernel
theorem dX12_step_23 : decode cX12_step 23 = .ok (.ifCond .eq 5, 3) := by decide +kernel
theorem dX12_step_28 : decode cX12_step 28 = .ok (.iload_n 2, 1) := by decide +kernel
theorem dX12_step_29 : decode cX12_step 29 = .ok (.invokestatic 176, 3) := by decide +kernel
theorem dX12_step_32 : decode cX12_step 32 = .ok (.ifCond .eq 20, 3) := by decide +kernel
theorem dX12_step_35 : decode cX12_step 35 = .ok (.aload_n 0, 1) := by decide +kernel
theorem dX12_step_36 : decode cX12_step 36 = .ok (.iload_n 2, 1) := by decide +kernel
theorem dX12_step_37 : decode cX12_step 37 = .ok (.invokevirtual 116, 3) := by decide +kernel
theorem dX12_step_40 : decode cX12_step 40 = .ok (.iconst (-1), 1) := by decide +kernel
theorem dX12_step_41 : decode cX12_step 41 = .ok (.if_icmp .eq 7, 3) := by decide +kernel
theorem dX12_step_48 : decode cX12_step 48 = .ok (.iconst 0, 1) := by decide +kernel
theorem dX12_step_49 : decode cX12_step 49 = .ok (.goto 17, 3) := by decide +kernel
theorem dX12_step_66 : decode cX12_step 66 = .ok (.istore 4, 2) := by decide +kernel
theorem dX12_step_68 : decode cX12_step 68 = .ok (.aload_n 0, 1) := by decide +kernel
theorem dX12_step_69 : decode cX12_step 69 = .ok (.iload 4, 2) := by decide +kernel
theorem dX12_step_71 : decode cX12_step 71 = .ok (.iconst 2, 1) := by decide +kernel
theorem dX12_step_72 : decode cX12_step 72 = .ok (.invokevirtual 56, 3) := by decide +kernel
theorem dX12_step_75 : decode cX12_step 75 = .ok (.ifCond .ne 32, 3) := by decide +kernel
theorem dX12_step_107 : decode cX12_step 107 = .ok (.iconst 0, 1) := by decide +kernel
theorem dX12_step_108 : decode cX12_step 108 = .ok (.ireturn, 1) := by decide +kernel
theorem dX12_step_52 : decode cX12_step 52 = .ok (.iload_n 2, 1) := by decide +kernel
theorem dX12_step_53 : decode cX12_step 53 = .ok (.bipush 100, 2) := by decide +kernel
theorem dX12_step_55 : decode cX12_step 55 = .ok (.isub, 1) := by decide +kernel
theorem dX12_step_56 : decode cX12_step 56 = .ok (.iconst 0, 1) := by decide +kernel
theorem dX12_step_57 : decode cX12_step 57 = .ok (.aload_n 0, 1) := by decide +kernel
theorem dX12_step_58 : decode cX12_step 58 = .ok (.invokevirtual 135, 3) := by decide +kernel
theorem dX12_step_61 : decode cX12_step 61 = .ok (.iconst 1, 1) := by decide +kernel
theorem dX12_step_62 : decode cX12_step 62 = .ok (.isub, 1) := by decide +kernel
theorem dX12_step_63 : decode cX12_step 63 = .ok (.invokestatic 60, 3) := by decide +kernel
theorem dX12_step_19 : decode cX12_step 19 = .ok (.iconst 0, 1) := by decide +kernel
theorem dX12_step_26 : decode cX12_step 26 = .ok (.iconst 0, 1) := by decide +kernel
theorem dX12_step_27 : decode cX12_step 27 = .ok (.ireturn, 1) := by decide +kernel
abbrev cX12_join : ByteArray := prog_14_method_79_code
def yX12_join : MethodName := ⟨RX12, "join", "(III)I"⟩
theorem dX12_join_0 : decode cX12_join 0 = .ok (.aload_n 0, 1) := by decide +kernel
theorem dX12_join_1 : decode cX12_join 1 = .ok (.iload_n 1, 1) := by decide +kernel
theorem dX12_join_2 : decode cX12_join 2 = .ok (.invokestatic 265, 3) := by decide +kernel
theorem dX12_join_5 : decode cX12_join 5 = .ok (.ifCond .eq 21, 3) := by decide +kernel
theorem dX12_join_8 : decode cX12_join 8 = .ok (.iload_n 2, 1) := by decide +kernel
theorem dX12_join_9 : decode cX12_join 9 = .ok (.invokestatic 265, 3) := by decide +kernel
theorem dX12_join_12 : decode cX12_join 12 = .ok (.ifCond .eq 14, 3) := by decide +kernel
theorem dX12_join_15 : decode cX12_join 15 = .ok (.iload_n 3, 1) := by decide +kernel
theorem dX12_join_16 : decode cX12_join 16 = .ok (.invokestatic 265, 3) := by decide +kernel
theorem dX12_join_19 : decode cX12_join 19 = .ok (.ifCond .eq 7, 3) := by decide +kernel
theorem dX12_join_22 : decode cX12_join 22 = .ok (.iconst 1, 1) := by decide +kernel
theorem dX12_join_23 : decode cX12_join 23 = .ok (.goto 4, 3) := by decide +kernel
theorem dX12_join_27 : decode cX12_join 27 = .ok (.invokevirtual 215, 3) := by decide +kernel
theorem dX12_join_30 : decode cX12_join 30 = .ok (.ifCond .eq 5, 3) := by decide +kernel
theorem dX12_join_35 : decode cX12_join 35 = .ok (.aload_n 0, 1) := by decide +kernel
theorem dX12_join_36 : decode cX12_join 36 = .ok (.iload_n 1, 1) := by decide +kernel
theorem dX12_join_37 : decode cX12_join 37 = .ok (.invokevirtual 202, 3) := by decide +kernel
theorem dX12_join_40 : decode cX12_join 40 = .ok (.istore 4, 2) := by decide +kernel
theorem dX12_join_42 : decode cX12_join 42 = .ok (.aload_n 0, 1) := by decide +kernel
theorem dX12_join_43 : decode cX12_join 43 = .ok (.iload_n 2, 1) := by decide +kernel
theorem dX12_join_44 : decode cX12_join 44 = .ok (.invokevirtual 202, 3) := by decide +kernel
theorem dX12_join_47 : decode cX12_join 47 = .ok (.istore 5, 2) := by decide +kernel
theorem dX12_join_49 : decode cX12_join 49 = .ok (.aload_n 0, 1) := by decide +kernel
theorem dX12_join_50 : decode cX12_join 50 = .ok (.iload 4, 2) := by decide +kernel
theorem dX12_join_52 : decode cX12_join 52 = .ok (.ifCond .le 24, 3) := by decide +kernel
theorem dX12_join_76 : decode cX12_join 76 = .ok (.iconst 0, 1) := by decide +kernel
theorem dX12_join_77 : decode cX12_join 77 = .ok (.iconst 2, 1) := by decide +kernel
theorem dX12_join_78 : decode cX12_join 78 = .ok (.invokevirtual 56, 3) := by decide +kernel
theorem dX12_join_81 : decode cX12_join 81 = .ok (.ifCond .eq 5, 3) := by decide +kernel
theorem dX12_join_84 : decode cX12_join 84 = .ok (.iconst 0, 1) := by decide +kernel
theorem dX12_join_85 : decode cX12_join 85 = .ok (.ireturn, 1) := by decide +kernel
theorem dX12_join_26 : decode cX12_join 26 = .ok (.iconst 0, 1) := by decide +kernel
theorem dX12_join_33 : decode cX12_join 33 = .ok (.iconst 0, 1) := by decide +kernel
theorem dX12_join_34 : decode cX12_join 34 = .ok (.ireturn, 1) := by decide +kernel
abbrev cX12_cut : ByteArray := prog_14_method_80_code
def yX12_cut : MethodName := ⟨RX12, "cut", "(IIII)I"⟩
theorem dX12_cut_0 : decode cX12_cut 0 = .ok (.aload_n 0, 1) := by decide +kernel
theorem dX12_cut_1 : decode cX12_cut 1 = .ok (.iload_n 1, 1) := by decide +kernel
theorem dX12_cut_2 : decode cX12_cut 2 = .ok (.invokestatic 265, 3) := by decide +kernel
theorem dX12_cut_5 : decode cX12_cut 5 = .ok (.ifCond .eq 15, 3) := by decide +kernel
theorem dX12_cut_8 : decode cX12_cut 8 = .ok (.iload 4, 2) := by decide +kernel
theorem dX12_cut_10 : decode cX12_cut 10 = .ok (.invokestatic 265, 3) := by decide +kernel
theorem dX12_cut_13 : decode cX12_cut 13 = .ok (.ifCond .eq 7, 3) := by decide +kernel
theorem dX12_cut_16 : decode cX12_cut 16 = .ok (.iconst 1, 1) := by decide +kernel
theorem dX12_cut_17 : decode cX12_cut 17 = .ok (.goto 4, 3) := by decide +kernel
theorem dX12_cut_21 : decode cX12_cut 21 = .ok (.invokevirtual 215, 3) := by decide +kernel
theorem dX12_cut_24 : decode cX12_cut 24 = .ok (.ifCond .ne 64, 3) := by decide +kernel
theorem dX12_cut_27 : decode cX12_cut 27 = .ok (.aload_n 0, 1) := by decide +kernel
theorem dX12_cut_28 : decode cX12_cut 28 = .ok (.iload_n 2, 1) := by decide +kernel
theorem dX12_cut_29 : decode cX12_cut 29 = .ok (.iconst 0, 1) := by decide +kernel
theorem dX12_cut_30 : decode cX12_cut 30 = .ok (.aload_n 0, 1) := by decide +kernel
theorem dX12_cut_31 : decode cX12_cut 31 = .ok (.iload_n 1, 1) := by decide +kernel
theorem dX12_cut_32 : decode cX12_cut 32 = .ok (.invokevirtual 202, 3) := by decide +kernel
theorem dX12_cut_35 : decode cX12_cut 35 = .ok (.iconst 1, 1) := by decide +kernel
theorem dX12_cut_36 : decode cX12_cut 36 = .ok (.isub, 1) := by decide +kernel
theorem dX12_cut_37 : decode cX12_cut 37 = .ok (.invokestatic 60, 3) := by decide +kernel
theorem dX12_cut_40 : decode cX12_cut 40 = .ok (.ifCond .eq 22, 3) := by decide +kernel
theorem dX12_cut_62 : decode cX12_cut 62 = .ok (.iconst 0, 1) := by decide +kernel
theorem dX12_cut_63 : decode cX12_cut 63 = .ok (.iconst 1, 1) := by decide +kernel
theorem dX12_cut_64 : decode cX12_cut 64 = .ok (.invokevirtual 56, 3) := by decide +kernel
theorem dX12_cut_67 : decode cX12_cut 67 = .ok (.ifCond .ne 21, 3) := by decide +kernel
theorem dX12_cut_88 : decode cX12_cut 88 = .ok (.iconst 0, 1) := by decide +kernel
theorem dX12_cut_89 : decode cX12_cut 89 = .ok (.ireturn, 1) := by decide +kernel
theorem dX12_cut_20 : decode cX12_cut 20 = .ok (.iconst 0, 1) := by decide +kernel
abbrev cX12_take : ByteArray := prog_14_method_81_code
def yX12_take : MethodName := ⟨RX12, "take", "(III)I"⟩
theorem dX12_take_0 : decode cX12_take 0 = .ok (.aload_n 0, 1) := by decide +kernel
theorem dX12_take_1 : decode cX12_take 1 = .ok (.iload_n 1, 1) := by decide +kernel
theorem dX12_take_2 : decode cX12_take 2 = .ok (.invokestatic 265, 3) := by decide +kernel
theorem dX12_take_5 : decode cX12_take 5 = .ok (.ifCond .eq 14, 3) := by decide +kernel
theorem dX12_take_8 : decode cX12_take 8 = .ok (.iload_n 3, 1) := by decide +kernel
theorem dX12_take_9 : decode cX12_take 9 = .ok (.invokestatic 225, 3) := by decide +kernel
theorem dX12_take_12 : decode cX12_take 12 = .ok (.ifCond .eq 7, 3) := by decide +kernel
theorem dX12_take_15 : decode cX12_take 15 = .ok (.iconst 1, 1) := by decide +kernel
theorem dX12_take_16 : decode cX12_take 16 = .ok (.goto 4, 3) := by decide +kernel
theorem dX12_take_20 : decode cX12_take 20 = .ok (.invokevirtual 215, 3) := by decide +kernel
theorem dX12_take_23 : decode cX12_take 23 = .ok (.ifCond .ne 23, 3) := by decide +kernel
theorem dX12_take_26 : decode cX12_take 26 = .ok (.aload_n 0, 1) := by decide +kernel
theorem dX12_take_27 : decode cX12_take 27 = .ok (.iload_n 2, 1) := by decide +kernel
theorem dX12_take_28 : decode cX12_take 28 = .ok (.iconst 0, 1) := by decide +kernel
theorem dX12_take_29 : decode cX12_take 29 = .ok (.aload_n 0, 1) := by decide +kernel
theorem dX12_take_30 : decode cX12_take 30 = .ok (.iload_n 1, 1) := by decide +kernel
theorem dX12_take_31 : decode cX12_take 31 = .ok (.invokevirtual 202, 3) := by decide +kernel
theorem dX12_take_34 : decode cX12_take 34 = .ok (.iconst 1, 1) := by decide +kernel
theorem dX12_take_35 : decode cX12_take 35 = .ok (.isub, 1) := by decide +kernel
theorem dX12_take_36 : decode cX12_take 36 = .ok (.invokestatic 60, 3) := by decide +kernel
theorem dX12_take_39 : decode cX12_take 39 = .ok (.iconst 1, 1) := by decide +kernel
theorem dX12_take_40 : decode cX12_take 40 = .ok (.invokevirtual 56, 3) := by decide +kernel
theorem dX12_take_43 : decode cX12_take 43 = .ok (.ifCond .eq 5, 3) := by decide +kernel
theorem dX12_take_46 : decode cX12_take 46 = .ok (.iconst 0, 1) := by decide +kernel
theorem dX12_take_47 : decode cX12_take 47 = .ok (.ireturn, 1) := by decide +kernel
theorem dX12_take_19 : decode cX12_take 19 = .ok (.iconst 0, 1) := by decide +kernel
abbrev cX12_find : ByteArray := prog_14_method_90_code
def yX12_find : MethodName := ⟨RX12, "find", "(IIIII)I"⟩
theorem dX12_find_0 : decode cX12_find 0 = .ok (.aload_n 0, 1) := by decide +kernel
theorem dX12_find_1 : decode cX12_find 1 = .ok (.iload_n 1, 1) := by decide +kernel
theorem dX12_find_2 : decode cX12_find 2 = .ok (.invokestatic 265, 3) := by decide +kernel
theorem dX12_find_5 : decode cX12_find 5 = .ok (.ifCond .eq 21, 3) := by decide +kernel
theorem dX12_find_8 : decode cX12_find 8 = .ok (.iload_n 2, 1) := by decide +kernel
theorem dX12_find_9 : decode cX12_find 9 = .ok (.invokestatic 225, 3) := by decide +kernel
theorem dX12_find_12 : decode cX12_find 12 = .ok (.ifCond .eq 14, 3) := by decide +kernel
theorem dX12_find_15 : decode cX12_find 15 = .ok (.iload_n 3, 1) := by decide +kernel
theorem dX12_find_16 : decode cX12_find 16 = .ok (.invokestatic 225, 3) := by decide +kernel
theorem dX12_find_19 : decode cX12_find 19 = .ok (.ifCond .eq 7, 3) := by decide +kernel
theorem dX12_find_22 : decode cX12_find 22 = .ok (.iconst 1, 1) := by decide +kernel
theorem dX12_find_23 : decode cX12_find 23 = .ok (.goto 4, 3) := by decide +kernel
theorem dX12_find_27 : decode cX12_find 27 = .ok (.invokevirtual 215, 3) := by decide +kernel
theorem dX12_find_30 : decode cX12_find 30 = .ok (.ifCond .ne 65, 3) := by decide +kernel
theorem dX12_find_33 : decode cX12_find 33 = .ok (.aload_n 0, 1) := by decide +kernel
theorem dX12_find_34 : decode cX12_find 34 = .ok (.iload 4, 2) := by decide +kernel
theorem dX12_find_36 : decode cX12_find 36 = .ok (.iconst 0, 1) := by decide +kernel
theorem dX12_find_37 : decode cX12_find 37 = .ok (.iconst 2, 1) := by decide +kernel
theorem dX12_find_38 : decode cX12_find 38 = .ok (.invokestatic 60, 3) := by decide +kernel
theorem dX12_find_41 : decode cX12_find 41 = .ok (.ifCond .eq 17, 3) := by decide +kernel
theorem dX12_find_44 : decode cX12_find 44 = .ok (.iload 5, 2) := by decide +kernel
theorem dX12_find_46 : decode cX12_find 46 = .ok (.iconst 0, 1) := by decide +kernel
theorem dX12_find_47 : decode cX12_find 47 = .ok (.iconst 4, 1) := by decide +kernel
theorem dX12_find_48 : decode cX12_find 48 = .ok (.invokestatic 60, 3) := by decide +kernel
theorem dX12_find_51 : decode cX12_find 51 = .ok (.ifCond .eq 7, 3) := by decide +kernel
theorem dX12_find_54 : decode cX12_find 54 = .ok (.iconst 1, 1) := by decide +kernel
theorem dX12_find_55 : decode cX12_find 55 = .ok (.goto 4, 3) := by decide +kernel
theorem dX12_find_59 : decode cX12_find 59 = .ok (.iconst 2, 1) := by decide +kernel
theorem dX12_find_60 : decode cX12_find 60 = .ok (.invokevirtual 56, 3) := by decide +kernel
theorem dX12_find_63 : decode cX12_find 63 = .ok (.ifCond .ne 32, 3) := by decide +kernel
theorem dX12_find_66 : decode cX12_find 66 = .ok (.aload_n 0, 1) := by decide +kernel
theorem dX12_find_67 : decode cX12_find 67 = .ok (.aload_n 0, 1) := by decide +kernel
theorem dX12_find_68 : decode cX12_find 68 = .ok (.iload_n 2, 1) := by decide +kernel
theorem dX12_find_69 : decode cX12_find 69 = .ok (.invokevirtual 222, 3) := by decide +kernel
theorem dX12_find_72 : decode cX12_find 72 = .ok (.ifCond .eq 15, 3) := by decide +kernel
theorem dX12_find_87 : decode cX12_find 87 = .ok (.iconst 0, 1) := by decide +kernel
theorem dX12_find_88 : decode cX12_find 88 = .ok (.iconst 3, 1) := by decide +kernel
theorem dX12_find_89 : decode cX12_find 89 = .ok (.invokevirtual 56, 3) := by decide +kernel
theorem dX12_find_92 : decode cX12_find 92 = .ok (.ifCond .eq 5, 3) := by decide +kernel
theorem dX12_find_95 : decode cX12_find 95 = .ok (.iconst 0, 1) := by decide +kernel
theorem dX12_find_96 : decode cX12_find 96 = .ok (.ireturn, 1) := by decide +kernel
theorem dX12_find_58 : decode cX12_find 58 = .ok (.iconst 0, 1) := by decide +kernel
theorem dX12_find_26 : decode cX12_find 26 = .ok (.iconst 0, 1) := by decide +kernel
abbrev cX12_undo : ByteArray := prog_14_method_93_code
def yX12_undo : MethodName := ⟨RX12, "undo", "()I"⟩
theorem dX12_undo_0 : decode cX12_undo 0 = .ok (.aload_n 0, 1) := by decide +kernel
theorem dX12_undo_1 : decode cX12_undo 1 = .ok (.aload_n 0, 1) := by decide +kernel
theorem zw_84 : Cond.fieldLink RX12 78 RX12 "changes" "I" ∈ zT := zT_of 1493 (by decide +kernel) (by decide +kernel)
theorem dX12_undo_2 : decode cX12_undo 2 = .ok (.getfield 78, 3) := by decide +kernel
theorem dX12_undo_5 : decode cX12_undo 5 = .ok (.ifCond .le 7, 3) := by decide +kernel
theorem dX12_undo_12 : decode cX12_undo 12 = .ok (.iconst 0, 1) := by decide +kernel
theorem dX12_undo_13 : decode cX12_undo 13 = .ok (.invokevirtual 215, 3) := by decide +kernel
theorem dX12_undo_16 : decode cX12_undo 16 = .ok (.ifCond .eq 5, 3) := by decide +kernel
theorem dX12_undo_19 : decode cX12_undo 19 = .ok (.iconst 0, 1) := by decide +kernel
theorem dX12_undo_20 : decode cX12_undo 20 = .ok (.ireturn, 1) := by decide +kernel
abbrev cX12_write : ByteArray := prog_14_method_103_code
def yX12_write : MethodName := ⟨RX12, "write", "(I)I"⟩
theorem dX12_write_0 : decode cX12_write 0 = .ok (.aload_n 0, 1) := by decide +kernel
theorem dX12_write_1 : decode cX12_write 1 = .ok (.iload_n 1, 1) := by decide +kernel
theorem dX12_write_2 : decode cX12_write 2 = .ok (.invokestatic 225, 3) := by decide +kernel
theorem dX12_write_5 : decode cX12_write 5 = .ok (.invokevirtual 215, 3) := by decide +kernel
theorem dX12_write_8 : decode cX12_write 8 = .ok (.ifCond .ne 16, 3) := by decide +kernel
theorem dX12_write_11 : decode cX12_write 11 = .ok (.aload_n 0, 1) := by decide +kernel
theorem dX12_write_12 : decode cX12_write 12 = .ok (.aload_n 0, 1) := by decide +kernel
theorem dX12_write_13 : decode cX12_write 13 = .ok (.iload_n 1, 1) := by decide +kernel
theorem dX12_write_14 : decode cX12_write 14 = .ok (.invokevirtual 222, 3) := by decide +kernel
theorem dX12_write_17 : decode cX12_write 17 = .ok (.iconst 2, 1) := by decide +kernel
theorem dX12_write_18 : decode cX12_write 18 = .ok (.invokevirtual 56, 3) := by decide +kernel
theorem dX12_write_21 : decode cX12_write 21 = .ok (.ifCond .eq 5, 3) := by decide +kernel
theorem dX12_write_24 : decode cX12_write 24 = .ok (.iconst 0, 1) := by decide +kernel
theorem dX12_write_25 : decode cX12_write 25 = .ok (.ireturn, 1) := by decide +kernel
abbrev cX12_writeLaw : ByteArray := prog_14_method_104_code
def yX12_writeLaw : MethodName := ⟨RX12, "writeLaw", "(I)I"⟩
theorem dX12_writeLaw_0 : decode cX12_writeLaw 0 = .ok (.aload_n 0, 1) := by decide +kernel
theorem dX12_writeLaw_1 : decode cX12_writeLaw 1 = .ok (.iload_n 1, 1) := by decide +kernel
theorem dX12_writeLaw_2 : decode cX12_writeLaw 2 = .ok (.invokevirtual 116, 3) := by decide +kernel
theorem dX12_writeLaw_5 : decode cX12_writeLaw 5 = .ok (.istore_n 2, 1) := by decide +kernel
theorem dX12_writeLaw_6 : decode cX12_writeLaw 6 = .ok (.aload_n 0, 1) := by decide +kernel
theorem dX12_writeLaw_7 : decode cX12_writeLaw 7 = .ok (.iload_n 2, 1) := by decide +kernel
theorem dX12_writeLaw_8 : decode cX12_writeLaw 8 = .ok (.iconst (-1), 1) := by decide +kernel
theorem dX12_writeLaw_9 : decode cX12_writeLaw 9 = .ok (.if_icmp .eq 7, 3) := by decide +kernel
theorem dX12_writeLaw_16 : decode cX12_writeLaw 16 = .ok (.iconst 0, 1) := by decide +kernel
theorem dX12_writeLaw_17 : decode cX12_writeLaw 17 = .ok (.invokevirtual 215, 3) := by decide +kernel
theorem dX12_writeLaw_20 : decode cX12_writeLaw 20 = .ok (.ifCond .eq 5, 3) := by decide +kernel
theorem dX12_writeLaw_23 : decode cX12_writeLaw 23 = .ok (.iconst 0, 1) := by decide +kernel
theorem dX12_writeLaw_24 : decode cX12_writeLaw 24 = .ok (.ireturn, 1) := by decide +kernel
abbrev cX12_outputAt : ByteArray := prog_14_method_105_code
def yX12_outputAt : MethodName := ⟨RX12, "outputAt", "(I)I"⟩
theorem dX12_outputAt_0 : decode cX12_outputAt 0 = .ok (.aload_n 0, 1) := by decide +kernel
theorem dX12_outputAt_1 : decode cX12_outputAt 1 = .ok (.iload_n 1, 1) := by decide +kernel
theorem dX12_outputAt_2 : decode cX12_outputAt 2 = .ok (.iconst 0, 1) := by decide +kernel
theorem dX12_outputAt_3 : decode cX12_outputAt 3 = .ok (.aload_n 0, 1) := by decide +kernel
theorem zw_85 : Cond.fieldLink RX12 344 RX12 "outputLength" "I" ∈ zT := zT_of 1500 (by decide +kernel) (by decide +kernel)
theorem dX12_outputAt_4 : decode cX12_outputAt 4 = .ok (.getfield 344, 3) := by decide +kernel
theorem dX12_outputAt_7 : decode cX12_outputAt 7 = .ok (.iconst 1, 1) := by decide +kernel
theorem dX12_outputAt_8 : decode cX12_outputAt 8 = .ok (.isub, 1) := by decide +kernel
theorem dX12_outputAt_9 : decode cX12_outputAt 9 = .ok (.invokestatic 60, 3) := by decide +kernel
theorem dX12_outputAt_12 : decode cX12_outputAt 12 = .ok (.invokevirtual 215, 3) := by decide +kernel
theorem dX12_outputAt_15 : decode cX12_outputAt 15 = .ok (.ifCond .eq 7, 3) := by decide +kernel
theorem dX12_outputAt_18 : decode cX12_outputAt 18 = .ok (.iconst 0, 1) := by decide +kernel
theorem dX12_outputAt_19 : decode cX12_outputAt 19 = .ok (.goto 9, 3) := by decide +kernel
theorem dX12_outputAt_28 : decode cX12_outputAt 28 = .ok (.ireturn, 1) := by decide +kernel
abbrev cX12_termAt : ByteArray := prog_14_method_107_code
def yX12_termAt : MethodName := ⟨RX12, "termAt", "(II)I"⟩
theorem dX12_termAt_0 : decode cX12_termAt 0 = .ok (.aload_n 0, 1) := by decide +kernel
theorem dX12_termAt_1 : decode cX12_termAt 1 = .ok (.iload_n 1, 1) := by decide +kernel
theorem dX12_termAt_2 : decode cX12_termAt 2 = .ok (.invokestatic 225, 3) := by decide +kernel
theorem dX12_termAt_5 : decode cX12_termAt 5 = .ok (.invokevirtual 215, 3) := by decide +kernel
theorem dX12_termAt_8 : decode cX12_termAt 8 = .ok (.ifCond .ne 17, 3) := by decide +kernel
theorem dX12_termAt_11 : decode cX12_termAt 11 = .ok (.aload_n 0, 1) := by decide +kernel
theorem dX12_termAt_12 : decode cX12_termAt 12 = .ok (.iload_n 2, 1) := by decide +kernel
theorem dX12_termAt_13 : decode cX12_termAt 13 = .ok (.iconst 0, 1) := by decide +kernel
theorem dX12_termAt_14 : decode cX12_termAt 14 = .ok (.iconst 3, 1) := by decide +kernel
theorem dX12_termAt_15 : decode cX12_termAt 15 = .ok (.invokestatic 60, 3) := by decide +kernel
theorem dX12_termAt_18 : decode cX12_termAt 18 = .ok (.iconst 2, 1) := by decide +kernel
theorem dX12_termAt_19 : decode cX12_termAt 19 = .ok (.invokevirtual 56, 3) := by decide +kernel
theorem dX12_termAt_22 : decode cX12_termAt 22 = .ok (.ifCond .eq 5, 3) := by decide +kernel
theorem dX12_termAt_27 : decode cX12_termAt 27 = .ok (.aload_n 0, 1) := by decide +kernel
theorem dX12_termAt_28 : decode cX12_termAt 28 = .ok (.iload_n 1, 1) := by decide +kernel
theorem dX12_termAt_29 : decode cX12_termAt 29 = .ok (.invokevirtual 222, 3) := by decide +kernel
theorem dX12_termAt_32 : decode cX12_termAt 32 = .ok (.ifCond .ne 5, 3) := by decide +kernel
theorem dX12_termAt_35 : decode cX12_termAt 35 = .ok (.iconst (-1), 1) := by decide +kernel
theorem dX12_termAt_36 : decode cX12_termAt 36 = .ok (.ireturn, 1) := by decide +kernel
theorem dX12_termAt_25 : decode cX12_termAt 25 = .ok (.iconst 0, 1) := by decide +kernel
theorem dX12_termAt_26 : decode cX12_termAt 26 = .ok (.ireturn, 1) := by decide +kernel
abbrev cX12_areSame : ByteArray := prog_14_method_108_code
def yX12_areSame : MethodName := ⟨RX12, "areSame", "(II)Z"⟩
theorem dX12_areSame_0 : decode cX12_areSame 0 = .ok (.aload_n 0, 1) := by decide +kernel
theorem dX12_areSame_1 : decode cX12_areSame 1 = .ok (.iload_n 1, 1) := by decide +kernel
theorem dX12_areSame_2 : decode cX12_areSame 2 = .ok (.invokestatic 225, 3) := by decide +kernel
theorem dX12_areSame_5 : decode cX12_areSame 5 = .ok (.ifCond .eq 14, 3) := by decide +kernel
theorem dX12_areSame_8 : decode cX12_areSame 8 = .ok (.iload_n 2, 1) := by decide +kernel
theorem dX12_areSame_9 : decode cX12_areSame 9 = .ok (.invokestatic 225, 3) := by decide +kernel
theorem dX12_areSame_12 : decode cX12_areSame 12 = .ok (.ifCond .eq 7, 3) := by decide +kernel
theorem dX12_areSame_15 : decode cX12_areSame 15 = .ok (.iconst 1, 1) := by decide +kernel
theorem dX12_areSame_16 : decode cX12_areSame 16 = .ok (.goto 4, 3) := by decide +kernel
theorem dX12_areSame_20 : decode cX12_areSame 20 = .ok (.invokevirtual 215, 3) := by decide +kernel
theorem dX12_areSame_23 : decode cX12_areSame 23 = .ok (.ifCond .ne 32, 3) := by decide +kernel
theorem dX12_areSame_26 : decode cX12_areSame 26 = .ok (.aload_n 0, 1) := by decide +kernel
theorem dX12_areSame_27 : decode cX12_areSame 27 = .ok (.iload_n 1, 1) := by decide +kernel
theorem dX12_areSame_28 : decode cX12_areSame 28 = .ok (.invokevirtual 222, 3) := by decide +kernel
theorem dX12_areSame_31 : decode cX12_areSame 31 = .ok (.ifCond .eq 24, 3) := by decide +kernel
theorem dX12_areSame_55 : decode cX12_areSame 55 = .ok (.iconst 0, 1) := by decide +kernel
theorem dX12_areSame_56 : decode cX12_areSame 56 = .ok (.ireturn, 1) := by decide +kernel
theorem dX12_areSame_19 : decode cX12_areSame 19 = .ok (.iconst 0, 1) := by decide +kernel
abbrev cX12_direction : ByteArray := prog_14_method_109_code
def yX12_direction : MethodName := ⟨RX12, "direction", "(II)I"⟩
theorem dX12_direction_0 : decode cX12_direction 0 = .ok (.aload_n 0, 1) := by decide +kernel
theorem dX12_direction_1 : decode cX12_direction 1 = .ok (.iload_n 1, 1) := by decide +kernel
theorem dX12_direction_2 : decode cX12_direction 2 = .ok (.invokestatic 225, 3) := by decide +kernel
theorem dX12_direction_5 : decode cX12_direction 5 = .ok (.invokevirtual 215, 3) := by decide +kernel
theorem dX12_direction_8 : decode cX12_direction 8 = .ok (.ifCond .ne 57, 3) := by decide +kernel
theorem dX12_direction_11 : decode cX12_direction 11 = .ok (.aload_n 0, 1) := by decide +kernel
theorem dX12_direction_12 : decode cX12_direction 12 = .ok (.aload_n 0, 1) := by decide +kernel
theorem dX12_direction_13 : decode cX12_direction 13 = .ok (.iload_n 1, 1) := by decide +kernel
theorem dX12_direction_14 : decode cX12_direction 14 = .ok (.invokevirtual 222, 3) := by decide +kernel
theorem dX12_direction_17 : decode cX12_direction 17 = .ok (.ifCond .eq 23, 3) := by decide +kernel
theorem dX12_direction_40 : decode cX12_direction 40 = .ok (.iconst 1, 1) := by decide +kernel
theorem dX12_direction_41 : decode cX12_direction 41 = .ok (.goto 4, 3) := by decide +kernel
theorem dX12_direction_45 : decode cX12_direction 45 = .ok (.iconst 1, 1) := by decide +kernel
theorem dX12_direction_46 : decode cX12_direction 46 = .ok (.invokevirtual 56, 3) := by decide +kernel
theorem dX12_direction_49 : decode cX12_direction 49 = .ok (.ifCond .ne 16, 3) := by decide +kernel
theorem dX12_direction_52 : decode cX12_direction 52 = .ok (.aload_n 0, 1) := by decide +kernel
theorem dX12_direction_53 : decode cX12_direction 53 = .ok (.aload_n 0, 1) := by decide +kernel
theorem dX12_direction_54 : decode cX12_direction 54 = .ok (.iload_n 1, 1) := by decide +kernel
theorem dX12_direction_55 : decode cX12_direction 55 = .ok (.invokevirtual 222, 3) := by decide +kernel
theorem dX12_direction_58 : decode cX12_direction 58 = .ok (.iconst 2, 1) := by decide +kernel
theorem dX12_direction_59 : decode cX12_direction 59 = .ok (.invokevirtual 56, 3) := by decide +kernel
theorem dX12_direction_62 : decode cX12_direction 62 = .ok (.ifCond .eq 5, 3) := by decide +kernel
theorem dX12_direction_65 : decode cX12_direction 65 = .ok (.iconst 0, 1) := by decide +kernel
theorem dX12_direction_66 : decode cX12_direction 66 = .ok (.ireturn, 1) := by decide +kernel
abbrev cX12_lawAt : ByteArray := prog_14_method_112_code
def yX12_lawAt : MethodName := ⟨RX12, "lawAt", "(II)I"⟩
theorem dX12_lawAt_0 : decode cX12_lawAt 0 = .ok (.aload_n 0, 1) := by decide +kernel
theorem dX12_lawAt_1 : decode cX12_lawAt 1 = .ok (.iload_n 1, 1) := by decide +kernel
theorem dX12_lawAt_2 : decode cX12_lawAt 2 = .ok (.invokevirtual 116, 3) := by decide +kernel
theorem dX12_lawAt_5 : decode cX12_lawAt 5 = .ok (.istore_n 3, 1) := by decide +kernel
theorem dX12_lawAt_6 : decode cX12_lawAt 6 = .ok (.aload_n 0, 1) := by decide +kernel
theorem dX12_lawAt_7 : decode cX12_lawAt 7 = .ok (.iload_n 3, 1) := by decide +kernel
theorem dX12_lawAt_8 : decode cX12_lawAt 8 = .ok (.iconst (-1), 1) := by decide +kernel
theorem dX12_lawAt_9 : decode cX12_lawAt 9 = .ok (.if_icmp .eq 7, 3) := by decide +kernel
theorem dX12_lawAt_16 : decode cX12_lawAt 16 = .ok (.iconst 0, 1) := by decide +kernel
theorem dX12_lawAt_17 : decode cX12_lawAt 17 = .ok (.invokevirtual 215, 3) := by decide +kernel
theorem dX12_lawAt_20 : decode cX12_lawAt 20 = .ok (.ifCond .ne 17, 3) := by decide +kernel
theorem dX12_lawAt_37 : decode cX12_lawAt 37 = .ok (.iconst 0, 1) := by decide +kernel
theorem dX12_lawAt_38 : decode cX12_lawAt 38 = .ok (.ireturn, 1) := by decide +kernel
abbrev cX12_rests : ByteArray := prog_14_method_113_code
def yX12_rests : MethodName := ⟨RX12, "rests", "(II)Z"⟩
theorem dX12_rests_0 : decode cX12_rests 0 = .ok (.aload_n 0, 1) := by decide +kernel
theorem dX12_rests_1 : decode cX12_rests 1 = .ok (.aload_n 0, 1) := by decide +kernel
theorem dX12_rests_2 : decode cX12_rests 2 = .ok (.iload_n 1, 1) := by decide +kernel
theorem dX12_rests_3 : decode cX12_rests 3 = .ok (.invokevirtual 116, 3) := by decide +kernel
theorem dX12_rests_6 : decode cX12_rests 6 = .ok (.iconst (-1), 1) := by decide +kernel
theorem dX12_rests_7 : decode cX12_rests 7 = .ok (.if_icmp .eq 16, 3) := by decide +kernel
theorem dX12_rests_23 : decode cX12_rests 23 = .ok (.iconst 0, 1) := by decide +kernel
theorem dX12_rests_24 : decode cX12_rests 24 = .ok (.invokevirtual 215, 3) := by decide +kernel
theorem dX12_rests_27 : decode cX12_rests 27 = .ok (.ifCond .ne 20, 3) := by decide +kernel
theorem dX12_rests_47 : decode cX12_rests 47 = .ok (.iconst 0, 1) := by decide +kernel
theorem dX12_rests_48 : decode cX12_rests 48 = .ok (.ireturn, 1) := by decide +kernel
abbrev cX12_lines : ByteArray := prog_14_method_115_code
def yX12_lines : MethodName := ⟨RX12, "lines", "(I)I"⟩
theorem dX12_lines_0 : decode cX12_lines 0 = .ok (.aload_n 0, 1) := by decide +kernel
theorem dX12_lines_1 : decode cX12_lines 1 = .ok (.iload_n 1, 1) := by decide +kernel
theorem dX12_lines_2 : decode cX12_lines 2 = .ok (.invokestatic 265, 3) := by decide +kernel
theorem dX12_lines_5 : decode cX12_lines 5 = .ok (.invokevirtual 215, 3) := by decide +kernel
theorem dX12_lines_8 : decode cX12_lines 8 = .ok (.ifCond .eq 7, 3) := by decide +kernel
theorem dX12_lines_15 : decode cX12_lines 15 = .ok (.aload_n 0, 1) := by decide +kernel
theorem dX12_lines_16 : decode cX12_lines 16 = .ok (.iload_n 1, 1) := by decide +kernel
theorem dX12_lines_17 : decode cX12_lines 17 = .ok (.invokevirtual 202, 3) := by decide +kernel
theorem dX12_lines_20 : decode cX12_lines 20 = .ok (.ireturn, 1) := by decide +kernel
theorem dX12_lines_11 : decode cX12_lines 11 = .ok (.iconst 0, 1) := by decide +kernel
theorem dX12_lines_12 : decode cX12_lines 12 = .ok (.goto 8, 3) := by decide +kernel
abbrev cX12_wrong : ByteArray := prog_14_method_116_code
def yX12_wrong : MethodName := ⟨RX12, "wrong", "(I)I"⟩
theorem dX12_wrong_0 : decode cX12_wrong 0 = .ok (.aload_n 0, 1) := by decide +kernel
theorem dX12_wrong_1 : decode cX12_wrong 1 = .ok (.iload_n 1, 1) := by decide +kernel
theorem dX12_wrong_2 : decode cX12_wrong 2 = .ok (.invokestatic 265, 3) := by decide +kernel
theorem dX12_wrong_5 : decode cX12_wrong 5 = .ok (.invokevirtual 215, 3) := by decide +kernel
theorem dX12_wrong_8 : decode cX12_wrong 8 = .ok (.ifCond .eq 7, 3) := by decide +kernel
theorem dX12_wrong_15 : decode cX12_wrong 15 = .ok (.aload_n 0, 1) := by decide +kernel
theorem dX12_wrong_16 : decode cX12_wrong 16 = .ok (.iload_n 1, 1) := by decide +kernel
theorem dX12_wrong_17 : decode cX12_wrong 17 = .ok (.aload_n 0, 1) := by decide +kernel
theorem zw_86 : Cond.methodLink RX12 288 yX12_allOpen ∈ zT := zT_of 1870 (by decide +kernel) (by decide +kernel)
theorem zw_87 : Cond.instanceMethod yX12_allOpen ∈ zT := zT_of 1872 (by decide +kernel) (by decide +kernel)
theorem zw_88 : Cond.selects RX12 yX12_allOpen yX12_allOpen ∈ zT := zT_ofS 89 (by decide +kernel) (by decide +kernel)
theorem zw_89 : Cond.code yX12_allOpen cX12_allOpen 1 (some .int) ∈ zT := zT_of 1873 (by decide +kernel) (by decide +kernel)
theorem dX12_wrong_18 : decode cX12_wrong 18 = .ok (.invokevirtual 288, 3) := by decide +kernel
theorem zw_90 : Cond.methodLink RX12 208 yX12_wrongOf ∈ zT := zT_of 1744 (by decide +kernel) (by decide +kernel)
theorem zw_91 : Cond.instanceMethod yX12_wrongOf ∈ zT := zT_of 1746 (by decide +kernel) (by decide +kernel)
theorem zw_92 : Cond.selects RX12 yX12_wrongOf yX12_wrongOf ∈ zT := zT_ofS 65 (by decide +kernel) (by decide +kernel)
theorem zw_93 : Cond.code yX12_wrongOf cX12_wrongOf 4 (some .int) ∈ zT := zT_of 1747 (by decide +kernel) (by decide +kernel)
theorem dX12_wrong_21 : decode cX12_wrong 21 = .ok (.invokevirtual 208, 3) := by decide +kernel
theorem dX12_wrong_24 : decode cX12_wrong 24 = .ok (.ireturn, 1) := by decide +kernel
theorem dX12_wrong_11 : decode cX12_wrong 11 = .ok (.iconst 0, 1) := by decide +kernel
theorem dX12_wrong_12 : decode cX12_wrong 12 = .ok (.goto 12, 3) := by decide +kernel
abbrev cX12_relation : ByteArray := prog_14_method_117_code
def yX12_relation : MethodName := ⟨RX12, "relation", "(I)I"⟩
theorem dX12_relation_0 : decode cX12_relation 0 = .ok (.aload_n 0, 1) := by decide +kernel
theorem dX12_relation_1 : decode cX12_relation 1 = .ok (.iload_n 1, 1) := by decide +kernel
theorem dX12_relation_2 : decode cX12_relation 2 = .ok (.invokestatic 265, 3) := by decide +kernel
theorem dX12_relation_5 : decode cX12_relation 5 = .ok (.invokevirtual 215, 3) := by decide +kernel
theorem dX12_relation_8 : decode cX12_relation 8 = .ok (.ifCond .eq 7, 3) := by decide +kernel
theorem dX12_relation_15 : decode cX12_relation 15 = .ok (.aload_n 0, 1) := by decide +kernel
theorem dX12_relation_16 : decode cX12_relation 16 = .ok (.iload_n 1, 1) := by decide +kernel
theorem dX12_relation_17 : decode cX12_relation 17 = .ok (.aload_n 0, 1) := by decide +kernel
theorem dX12_relation_18 : decode cX12_relation 18 = .ok (.invokevirtual 288, 3) := by decide +kernel
theorem dX12_relation_21 : decode cX12_relation 21 = .ok (.invokevirtual 258, 3) := by decide +kernel
theorem dX12_relation_24 : decode cX12_relation 24 = .ok (.ireturn, 1) := by decide +kernel
theorem dX12_relation_11 : decode cX12_relation 11 = .ok (.iconst 0, 1) := by decide +kernel
theorem dX12_relation_12 : decode cX12_relation 12 = .ok (.goto 12, 3) := by decide +kernel
abbrev cX12_stepAt : ByteArray := prog_14_method_119_code
def yX12_stepAt : MethodName := ⟨RX12, "stepAt", "(III)I"⟩
theorem dX12_stepAt_0 : decode cX12_stepAt 0 = .ok (.aload_n 0, 1) := by decide +kernel
theorem dX12_stepAt_1 : decode cX12_stepAt 1 = .ok (.iload_n 1, 1) := by decide +kernel
theorem dX12_stepAt_2 : decode cX12_stepAt 2 = .ok (.invokestatic 265, 3) := by decide +kernel
theorem dX12_stepAt_5 : decode cX12_stepAt 5 = .ok (.invokevirtual 215, 3) := by decide +kernel
theorem dX12_stepAt_8 : decode cX12_stepAt 8 = .ok (.ifCond .ne 37, 3) := by decide +kernel
theorem dX12_stepAt_11 : decode cX12_stepAt 11 = .ok (.aload_n 0, 1) := by decide +kernel
theorem dX12_stepAt_12 : decode cX12_stepAt 12 = .ok (.iload_n 2, 1) := by decide +kernel
theorem dX12_stepAt_13 : decode cX12_stepAt 13 = .ok (.iconst 1, 1) := by decide +kernel
theorem dX12_stepAt_14 : decode cX12_stepAt 14 = .ok (.aload_n 0, 1) := by decide +kernel
theorem dX12_stepAt_15 : decode cX12_stepAt 15 = .ok (.iload_n 1, 1) := by decide +kernel
theorem dX12_stepAt_16 : decode cX12_stepAt 16 = .ok (.invokevirtual 202, 3) := by decide +kernel
theorem dX12_stepAt_19 : decode cX12_stepAt 19 = .ok (.iconst 1, 1) := by decide +kernel
theorem dX12_stepAt_20 : decode cX12_stepAt 20 = .ok (.isub, 1) := by decide +kernel
theorem dX12_stepAt_21 : decode cX12_stepAt 21 = .ok (.invokestatic 60, 3) := by decide +kernel
theorem dX12_stepAt_24 : decode cX12_stepAt 24 = .ok (.iconst 1, 1) := by decide +kernel
theorem dX12_stepAt_25 : decode cX12_stepAt 25 = .ok (.invokevirtual 56, 3) := by decide +kernel
theorem dX12_stepAt_28 : decode cX12_stepAt 28 = .ok (.ifCond .ne 17, 3) := by decide +kernel
theorem dX12_stepAt_45 : decode cX12_stepAt 45 = .ok (.iconst 0, 1) := by decide +kernel
theorem dX12_stepAt_46 : decode cX12_stepAt 46 = .ok (.ireturn, 1) := by decide +kernel
abbrev cX12_fails : ByteArray := prog_14_method_128_code
def yX12_fails : MethodName := ⟨RX12, "fails", "(IIII)I"⟩
theorem dX12_fails_0 : decode cX12_fails 0 = .ok (.aload_n 0, 1) := by decide +kernel
theorem dX12_fails_1 : decode cX12_fails 1 = .ok (.iload_n 1, 1) := by decide +kernel
theorem dX12_fails_2 : decode cX12_fails 2 = .ok (.invokestatic 225, 3) := by decide +kernel
theorem dX12_fails_5 : decode cX12_fails 5 = .ok (.ifCond .eq 14, 3) := by decide +kernel
theorem dX12_fails_8 : decode cX12_fails 8 = .ok (.iload_n 3, 1) := by decide +kernel
theorem dX12_fails_9 : decode cX12_fails 9 = .ok (.invokestatic 225, 3) := by decide +kernel
theorem dX12_fails_12 : decode cX12_fails 12 = .ok (.ifCond .eq 7, 3) := by decide +kernel
theorem dX12_fails_15 : decode cX12_fails 15 = .ok (.iconst 1, 1) := by decide +kernel
theorem dX12_fails_16 : decode cX12_fails 16 = .ok (.goto 4, 3) := by decide +kernel
theorem dX12_fails_20 : decode cX12_fails 20 = .ok (.invokevirtual 215, 3) := by decide +kernel
theorem dX12_fails_23 : decode cX12_fails 23 = .ok (.ifCond .ne 66, 3) := by decide +kernel
theorem dX12_fails_26 : decode cX12_fails 26 = .ok (.aload_n 0, 1) := by decide +kernel
theorem dX12_fails_27 : decode cX12_fails 27 = .ok (.aload_n 0, 1) := by decide +kernel
theorem dX12_fails_28 : decode cX12_fails 28 = .ok (.iload_n 1, 1) := by decide +kernel
theorem dX12_fails_29 : decode cX12_fails 29 = .ok (.invokevirtual 222, 3) := by decide +kernel
theorem dX12_fails_32 : decode cX12_fails 32 = .ok (.ifCond .eq 15, 3) := by decide +kernel
theorem dX12_fails_47 : decode cX12_fails 47 = .ok (.iconst 0, 1) := by decide +kernel
theorem dX12_fails_48 : decode cX12_fails 48 = .ok (.iconst 2, 1) := by decide +kernel
theorem dX12_fails_49 : decode cX12_fails 49 = .ok (.invokevirtual 56, 3) := by decide +kernel
theorem dX12_fails_52 : decode cX12_fails 52 = .ok (.ifCond .ne 37, 3) := by decide +kernel
theorem dX12_fails_89 : decode cX12_fails 89 = .ok (.iconst 0, 1) := by decide +kernel
theorem dX12_fails_90 : decode cX12_fails 90 = .ok (.ireturn, 1) := by decide +kernel
theorem dX12_fails_19 : decode cX12_fails 19 = .ok (.iconst 0, 1) := by decide +kernel
abbrev cX12_value : ByteArray := prog_14_method_129_code
def yX12_value : MethodName := ⟨RX12, "value", "(III)I"⟩
theorem dX12_value_0 : decode cX12_value 0 = .ok (.aload_n 0, 1) := by decide +kernel
theorem dX12_value_1 : decode cX12_value 1 = .ok (.iload_n 2, 1) := by decide +kernel
theorem dX12_value_2 : decode cX12_value 2 = .ok (.invokestatic 225, 3) := by decide +kernel
theorem dX12_value_5 : decode cX12_value 5 = .ok (.invokevirtual 215, 3) := by decide +kernel
theorem dX12_value_8 : decode cX12_value 8 = .ok (.ifCond .ne 50, 3) := by decide +kernel
theorem dX12_value_11 : decode cX12_value 11 = .ok (.aload_n 0, 1) := by decide +kernel
theorem dX12_value_12 : decode cX12_value 12 = .ok (.aload_n 0, 1) := by decide +kernel
theorem dX12_value_13 : decode cX12_value 13 = .ok (.iload_n 2, 1) := by decide +kernel
theorem dX12_value_14 : decode cX12_value 14 = .ok (.invokevirtual 222, 3) := by decide +kernel
theorem dX12_value_17 : decode cX12_value 17 = .ok (.iconst 2, 1) := by decide +kernel
theorem dX12_value_18 : decode cX12_value 18 = .ok (.invokevirtual 56, 3) := by decide +kernel
theorem dX12_value_21 : decode cX12_value 21 = .ok (.ifCond .ne 37, 3) := by decide +kernel
theorem dX12_value_58 : decode cX12_value 58 = .ok (.iconst 0, 1) := by decide +kernel
theorem dX12_value_59 : decode cX12_value 59 = .ok (.ireturn, 1) := by decide +kernel
def zS_sign (p0 : Int32) (p1 : Int32) (p2 : Int32) (k r : Int32) : Prop := (k = 1 ∧ (¬ ((0 ≤ p0.toInt ∧ p0.toInt ≤ 2) ∧ (1 ≤ p0.toInt → (0 ≤ p1.toInt ∧ p1.toInt ≤ 2)) ∧ (2 ≤ p0.toInt → (0 ≤ p2.toInt ∧ p2.toInt ≤ 2))))) ∨ (k = 0 ∧ (((0 ≤ p0.toInt ∧ p0.toInt ≤ 2) ∧ (1 ≤ p0.toInt → (0 ≤ p1.toInt ∧ p1.toInt ≤ 2)) ∧ (2 ≤ p0.toInt → (0 ≤ p2.toInt ∧ p2.toInt ≤ 2)))) ∧ r = 0)
theorem zF_sign {p0 p1 p2 k r k2 r2 : Int32} (h1 : zS_sign p0 p1 p2 k r) (h2 : zS_sign p0 p1 p2 k2 r2) : k = k2 ∧ (k = 0 → r = r2) := by
  unfold zS_sign at h1 h2
  rcases h1 with ⟨rfl, g1⟩ | ⟨rfl, g1, e1⟩
  · rcases h2 with ⟨rfl, g2⟩ | ⟨rfl, g2, e2⟩
    · exact ⟨rfl, fun h => absurd h (by decide)⟩
    · exfalso; omega
  · rcases h2 with ⟨rfl, g2⟩ | ⟨rfl, g2, e2⟩
    · exfalso; omega
    · exact ⟨rfl, fun _ => e1.trans e2.symm⟩
def zS_variable (p0 : Int32) (p1 : Int32) (k r : Int32) : Prop := (k = 1 ∧ (¬ (0 ≤ p0.toInt ∧ p0.toInt ≤ 9))) ∨ (k = 2 ∧ ((0 ≤ p0.toInt ∧ p0.toInt ≤ 9) ∧ ¬ (0 ≤ p1.toInt ∧ p1.toInt ≤ 3))) ∨ (k = 0 ∧ ((0 ≤ p0.toInt ∧ p0.toInt ≤ 9) ∧ (0 ≤ p1.toInt ∧ p1.toInt ≤ 3)) ∧ r = 1)
theorem zF_variable {p0 p1 k r k2 r2 : Int32} (h1 : zS_variable p0 p1 k r) (h2 : zS_variable p0 p1 k2 r2) : k = k2 ∧ (k = 0 → r = r2) := by
  unfold zS_variable at h1 h2
  rcases h1 with ⟨rfl, g1⟩ | ⟨rfl, g1⟩ | ⟨rfl, g1, e1⟩
  · rcases h2 with ⟨rfl, g2⟩ | ⟨rfl, g2⟩ | ⟨rfl, g2, e2⟩
    · exact ⟨rfl, fun h => absurd h (by decide)⟩
    · exfalso; omega
    · exfalso; omega
  · rcases h2 with ⟨rfl, g2⟩ | ⟨rfl, g2⟩ | ⟨rfl, g2, e2⟩
    · exfalso; omega
    · exact ⟨rfl, fun h => absurd h (by decide)⟩
    · exfalso; omega
  · rcases h2 with ⟨rfl, g2⟩ | ⟨rfl, g2⟩ | ⟨rfl, g2, e2⟩
    · exfalso; omega
    · exfalso; omega
    · exact ⟨rfl, fun _ => e1.trans e2.symm⟩
def zS_term (p0 : Int32) (p1 : Int32) (p2 : Int32) (p3 : Int32) (k r : Int32) : Prop := (k = 1 ∧ (True))
theorem zF_term {p0 p1 p2 p3 k r k2 r2 : Int32} (h1 : zS_term p0 p1 p2 p3 k r) (h2 : zS_term p0 p1 p2 p3 k2 r2) : k = k2 ∧ (k = 0 → r = r2) := by
  unfold zS_term at h1 h2
  obtain ⟨rfl, g1⟩ := h1
  obtain ⟨rfl, g2⟩ := h2
  exact ⟨rfl, fun h => absurd h (by decide)⟩
def zS_read (p0 : Int32) (k r : Int32) : Prop := (k = 1 ∧ (¬ (0 ≤ p0.toInt ∧ p0.toInt ≤ 9))) ∨ (k = 2 ∧ ((0 ≤ p0.toInt ∧ p0.toInt ≤ 9)))
theorem zF_read {p0 k r k2 r2 : Int32} (h1 : zS_read p0 k r) (h2 : zS_read p0 k2 r2) : k = k2 ∧ (k = 0 → r = r2) := by
  unfold zS_read at h1 h2
  rcases h1 with ⟨rfl, g1⟩ | ⟨rfl, g1⟩
  · rcases h2 with ⟨rfl, g2⟩ | ⟨rfl, g2⟩
    · exact ⟨rfl, fun h => absurd h (by decide)⟩
    · exfalso; omega
  · rcases h2 with ⟨rfl, g2⟩ | ⟨rfl, g2⟩
    · exfalso; omega
    · exact ⟨rfl, fun h => absurd h (by decide)⟩
def zS_part (p0 : Int32) (p1 : Int32) (p2 : Int32) (k r : Int32) : Prop := (k = 1 ∧ (¬ ((0 ≤ p0.toInt ∧ p0.toInt ≤ 9) ∧ (0 ≤ p2.toInt ∧ p2.toInt ≤ 9)))) ∨ (k = 2 ∧ (((0 ≤ p0.toInt ∧ p0.toInt ≤ 9) ∧ (0 ≤ p2.toInt ∧ p2.toInt ≤ 9))))
theorem zF_part {p0 p1 p2 k r k2 r2 : Int32} (h1 : zS_part p0 p1 p2 k r) (h2 : zS_part p0 p1 p2 k2 r2) : k = k2 ∧ (k = 0 → r = r2) := by
  unfold zS_part at h1 h2
  rcases h1 with ⟨rfl, g1⟩ | ⟨rfl, g1⟩
  · rcases h2 with ⟨rfl, g2⟩ | ⟨rfl, g2⟩
    · exact ⟨rfl, fun h => absurd h (by decide)⟩
    · exfalso; omega
  · rcases h2 with ⟨rfl, g2⟩ | ⟨rfl, g2⟩
    · exfalso; omega
    · exact ⟨rfl, fun h => absurd h (by decide)⟩
def zS_law (p0 : Int32) (p1 : Int32) (p2 : Int32) (p3 : Int32) (k r : Int32) : Prop := (k = 1 ∧ (¬ ((0 ≤ p0.toInt ∧ p0.toInt ≤ 99) ∧ (0 ≤ p2.toInt ∧ p2.toInt ≤ 1)))) ∨ (k = 2 ∧ (((0 ≤ p0.toInt ∧ p0.toInt ≤ 99) ∧ (0 ≤ p2.toInt ∧ p2.toInt ≤ 1)) ∧ ¬ ((0 ≤ p1.toInt ∧ p1.toInt ≤ 9) ∧ (0 ≤ p3.toInt ∧ p3.toInt ≤ 9)))) ∨ (k = 3 ∧ (((0 ≤ p0.toInt ∧ p0.toInt ≤ 99) ∧ (0 ≤ p2.toInt ∧ p2.toInt ≤ 1)) ∧ ((0 ≤ p1.toInt ∧ p1.toInt ≤ 9) ∧ (0 ≤ p3.toInt ∧ p3.toInt ≤ 9))))
theorem zF_law {p0 p1 p2 p3 k r k2 r2 : Int32} (h1 : zS_law p0 p1 p2 p3 k r) (h2 : zS_law p0 p1 p2 p3 k2 r2) : k = k2 ∧ (k = 0 → r = r2) := by
  unfold zS_law at h1 h2
  rcases h1 with ⟨rfl, g1⟩ | ⟨rfl, g1⟩ | ⟨rfl, g1⟩
  · rcases h2 with ⟨rfl, g2⟩ | ⟨rfl, g2⟩ | ⟨rfl, g2⟩
    · exact ⟨rfl, fun h => absurd h (by decide)⟩
    · exfalso; omega
    · exfalso; omega
  · rcases h2 with ⟨rfl, g2⟩ | ⟨rfl, g2⟩ | ⟨rfl, g2⟩
    · exfalso; omega
    · exact ⟨rfl, fun h => absurd h (by decide)⟩
    · exfalso; omega
  · rcases h2 with ⟨rfl, g2⟩ | ⟨rfl, g2⟩ | ⟨rfl, g2⟩
    · exfalso; omega
    · exfalso; omega
    · exact ⟨rfl, fun h => absurd h (by decide)⟩
def zS_condition (p0 : Int32) (p1 : Int32) (p2 : Int32) (k r : Int32) : Prop := (k = 1 ∧ (True))
theorem zF_condition {p0 p1 p2 k r k2 r2 : Int32} (h1 : zS_condition p0 p1 p2 k r) (h2 : zS_condition p0 p1 p2 k2 r2) : k = k2 ∧ (k = 0 → r = r2) := by
  unfold zS_condition at h1 h2
  obtain ⟨rfl, g1⟩ := h1
  obtain ⟨rfl, g2⟩ := h2
  exact ⟨rfl, fun h => absurd h (by decide)⟩
def zS_equivalence (p0 : Int32) (p1 : Int32) (p2 : Int32) (p3 : Int32) (p4 : Int32) (k r : Int32) : Prop := (k = 1 ∧ (¬ (0 ≤ p0.toInt ∧ p0.toInt ≤ 99))) ∨ (k = 2 ∧ ((0 ≤ p0.toInt ∧ p0.toInt ≤ 99) ∧ ¬ ((0 ≤ p1.toInt ∧ p1.toInt ≤ 9) ∧ (0 ≤ p2.toInt ∧ p2.toInt ≤ 9) ∧ (0 ≤ p3.toInt ∧ p3.toInt ≤ 9) ∧ (0 ≤ p4.toInt ∧ p4.toInt ≤ 9)))) ∨ (k = 3 ∧ ((0 ≤ p0.toInt ∧ p0.toInt ≤ 99) ∧ ((0 ≤ p1.toInt ∧ p1.toInt ≤ 9) ∧ (0 ≤ p2.toInt ∧ p2.toInt ≤ 9) ∧ (0 ≤ p3.toInt ∧ p3.toInt ≤ 9) ∧ (0 ≤ p4.toInt ∧ p4.toInt ≤ 9))))
theorem zF_equivalence {p0 p1 p2 p3 p4 k r k2 r2 : Int32} (h1 : zS_equivalence p0 p1 p2 p3 p4 k r) (h2 : zS_equivalence p0 p1 p2 p3 p4 k2 r2) : k = k2 ∧ (k = 0 → r = r2) := by
  unfold zS_equivalence at h1 h2
  rcases h1 with ⟨rfl, g1⟩ | ⟨rfl, g1⟩ | ⟨rfl, g1⟩
  · rcases h2 with ⟨rfl, g2⟩ | ⟨rfl, g2⟩ | ⟨rfl, g2⟩
    · exact ⟨rfl, fun h => absurd h (by decide)⟩
    · exfalso; omega
    · exfalso; omega
  · rcases h2 with ⟨rfl, g2⟩ | ⟨rfl, g2⟩ | ⟨rfl, g2⟩
    · exfalso; omega
    · exact ⟨rfl, fun h => absurd h (by decide)⟩
    · exfalso; omega
  · rcases h2 with ⟨rfl, g2⟩ | ⟨rfl, g2⟩ | ⟨rfl, g2⟩
    · exfalso; omega
    · exfalso; omega
    · exact ⟨rfl, fun h => absurd h (by decide)⟩
def zS_assume (p0 : Int32) (p1 : Int32) (k r : Int32) : Prop := (k = 1 ∧ (¬ ((0 ≤ p0.toInt ∧ p0.toInt ≤ 9) ∧ (0 ≤ p1.toInt ∧ p1.toInt ≤ 9)))) ∨ (k = 2 ∧ (((0 ≤ p0.toInt ∧ p0.toInt ≤ 9) ∧ (0 ≤ p1.toInt ∧ p1.toInt ≤ 9))))
theorem zF_assume {p0 p1 k r k2 r2 : Int32} (h1 : zS_assume p0 p1 k r) (h2 : zS_assume p0 p1 k2 r2) : k = k2 ∧ (k = 0 → r = r2) := by
  unfold zS_assume at h1 h2
  rcases h1 with ⟨rfl, g1⟩ | ⟨rfl, g1⟩
  · rcases h2 with ⟨rfl, g2⟩ | ⟨rfl, g2⟩
    · exact ⟨rfl, fun h => absurd h (by decide)⟩
    · exfalso; omega
  · rcases h2 with ⟨rfl, g2⟩ | ⟨rfl, g2⟩
    · exfalso; omega
    · exact ⟨rfl, fun h => absurd h (by decide)⟩
def zS_giveUp  (k r : Int32) : Prop := (k = 1 ∧ (True))
theorem zF_giveUp { k r k2 r2 : Int32} (h1 : zS_giveUp k r) (h2 : zS_giveUp k2 r2) : k = k2 ∧ (k = 0 → r = r2) := by
  unfold zS_giveUp at h1 h2
  obtain ⟨rfl, g1⟩ := h1
  obtain ⟨rfl, g2⟩ := h2
  exact ⟨rfl, fun h => absurd h (by decide)⟩
def zS_end (p0 : Int32) (p1 : Int32) (k r : Int32) : Prop := (k = 1 ∧ (¬ (0 ≤ p0.toInt ∧ p0.toInt ≤ 99))) ∨ (k = 2 ∧ ((0 ≤ p0.toInt ∧ p0.toInt ≤ 99) ∧ ¬ (0 ≤ p1.toInt ∧ p1.toInt ≤ 3))) ∨ (k = 3 ∧ ((0 ≤ p0.toInt ∧ p0.toInt ≤ 99) ∧ (0 ≤ p1.toInt ∧ p1.toInt ≤ 3)))
theorem zF_end {p0 p1 k r k2 r2 : Int32} (h1 : zS_end p0 p1 k r) (h2 : zS_end p0 p1 k2 r2) : k = k2 ∧ (k = 0 → r = r2) := by
  unfold zS_end at h1 h2
  rcases h1 with ⟨rfl, g1⟩ | ⟨rfl, g1⟩ | ⟨rfl, g1⟩
  · rcases h2 with ⟨rfl, g2⟩ | ⟨rfl, g2⟩ | ⟨rfl, g2⟩
    · exact ⟨rfl, fun h => absurd h (by decide)⟩
    · exfalso; omega
    · exfalso; omega
  · rcases h2 with ⟨rfl, g2⟩ | ⟨rfl, g2⟩ | ⟨rfl, g2⟩
    · exfalso; omega
    · exact ⟨rfl, fun h => absurd h (by decide)⟩
    · exfalso; omega
  · rcases h2 with ⟨rfl, g2⟩ | ⟨rfl, g2⟩ | ⟨rfl, g2⟩
    · exfalso; omega
    · exfalso; omega
    · exact ⟨rfl, fun h => absurd h (by decide)⟩
def zS_lemma (p0 : Int32) (p1 : Int32) (k r : Int32) : Prop := (k = 1 ∧ (¬ (0 ≤ p0.toInt ∧ p0.toInt ≤ 99))) ∨ (k = 2 ∧ ((0 ≤ p0.toInt ∧ p0.toInt ≤ 99) ∧ ¬ (0 ≤ p1.toInt ∧ p1.toInt ≤ 3))) ∨ (k = 3 ∧ ((0 ≤ p0.toInt ∧ p0.toInt ≤ 99) ∧ (0 ≤ p1.toInt ∧ p1.toInt ≤ 3)))
theorem zF_lemma {p0 p1 k r k2 r2 : Int32} (h1 : zS_lemma p0 p1 k r) (h2 : zS_lemma p0 p1 k2 r2) : k = k2 ∧ (k = 0 → r = r2) := by
  unfold zS_lemma at h1 h2
  rcases h1 with ⟨rfl, g1⟩ | ⟨rfl, g1⟩ | ⟨rfl, g1⟩
  · rcases h2 with ⟨rfl, g2⟩ | ⟨rfl, g2⟩ | ⟨rfl, g2⟩
    · exact ⟨rfl, fun h => absurd h (by decide)⟩
    · exfalso; omega
    · exfalso; omega
  · rcases h2 with ⟨rfl, g2⟩ | ⟨rfl, g2⟩ | ⟨rfl, g2⟩
    · exfalso; omega
    · exact ⟨rfl, fun h => absurd h (by decide)⟩
    · exfalso; omega
  · rcases h2 with ⟨rfl, g2⟩ | ⟨rfl, g2⟩ | ⟨rfl, g2⟩
    · exfalso; omega
    · exfalso; omega
    · exact ⟨rfl, fun h => absurd h (by decide)⟩
def zS_cases (p0 : Int32) (p1 : Int32) (p2 : Int32) (k r : Int32) : Prop := (k = 1 ∧ (¬ (0 ≤ p0.toInt ∧ p0.toInt ≤ 99))) ∨ (k = 2 ∧ ((0 ≤ p0.toInt ∧ p0.toInt ≤ 99)))
theorem zF_cases {p0 p1 p2 k r k2 r2 : Int32} (h1 : zS_cases p0 p1 p2 k r) (h2 : zS_cases p0 p1 p2 k2 r2) : k = k2 ∧ (k = 0 → r = r2) := by
  unfold zS_cases at h1 h2
  rcases h1 with ⟨rfl, g1⟩ | ⟨rfl, g1⟩
  · rcases h2 with ⟨rfl, g2⟩ | ⟨rfl, g2⟩
    · exact ⟨rfl, fun h => absurd h (by decide)⟩
    · exfalso; omega
  · rcases h2 with ⟨rfl, g2⟩ | ⟨rfl, g2⟩
    · exfalso; omega
    · exact ⟨rfl, fun h => absurd h (by decide)⟩
def zS_across (p0 : Int32) (p1 : Int32) (p2 : Int32) (p3 : Int32) (k r : Int32) : Prop := (k = 1 ∧ (¬ (0 ≤ p0.toInt ∧ p0.toInt ≤ 99))) ∨ (k = 2 ∧ ((0 ≤ p0.toInt ∧ p0.toInt ≤ 99)))
theorem zF_across {p0 p1 p2 p3 k r k2 r2 : Int32} (h1 : zS_across p0 p1 p2 p3 k r) (h2 : zS_across p0 p1 p2 p3 k2 r2) : k = k2 ∧ (k = 0 → r = r2) := by
  unfold zS_across at h1 h2
  rcases h1 with ⟨rfl, g1⟩ | ⟨rfl, g1⟩
  · rcases h2 with ⟨rfl, g2⟩ | ⟨rfl, g2⟩
    · exact ⟨rfl, fun h => absurd h (by decide)⟩
    · exfalso; omega
  · rcases h2 with ⟨rfl, g2⟩ | ⟨rfl, g2⟩
    · exfalso; omega
    · exact ⟨rfl, fun h => absurd h (by decide)⟩
def zS_begin (p0 : Int32) (p1 : Int32) (k r : Int32) : Prop := (k = 1 ∧ (¬ ((0 ≤ p0.toInt ∧ p0.toInt ≤ 3) ∧ (0 ≤ p1.toInt ∧ p1.toInt ≤ 9)))) ∨ (k = 2 ∧ (((0 ≤ p0.toInt ∧ p0.toInt ≤ 3) ∧ (0 ≤ p1.toInt ∧ p1.toInt ≤ 9))))
theorem zF_begin {p0 p1 k r k2 r2 : Int32} (h1 : zS_begin p0 p1 k r) (h2 : zS_begin p0 p1 k2 r2) : k = k2 ∧ (k = 0 → r = r2) := by
  unfold zS_begin at h1 h2
  rcases h1 with ⟨rfl, g1⟩ | ⟨rfl, g1⟩
  · rcases h2 with ⟨rfl, g2⟩ | ⟨rfl, g2⟩
    · exact ⟨rfl, fun h => absurd h (by decide)⟩
    · exfalso; omega
  · rcases h2 with ⟨rfl, g2⟩ | ⟨rfl, g2⟩
    · exfalso; omega
    · exact ⟨rfl, fun h => absurd h (by decide)⟩
def zS_line (p0 : Int32) (p1 : Int32) (p2 : Int32) (k r : Int32) : Prop := (k = 1 ∧ (¬ ((0 ≤ p0.toInt ∧ p0.toInt ≤ 3) ∧ (0 ≤ p2.toInt ∧ p2.toInt ≤ 9)))) ∨ (k = 2 ∧ (((0 ≤ p0.toInt ∧ p0.toInt ≤ 3) ∧ (0 ≤ p2.toInt ∧ p2.toInt ≤ 9)) ∧ ¬ (0 ≤ p1.toInt ∧ p1.toInt ≤ 102))) ∨ (k = 3 ∧ (((0 ≤ p0.toInt ∧ p0.toInt ≤ 3) ∧ (0 ≤ p2.toInt ∧ p2.toInt ≤ 9)) ∧ (0 ≤ p1.toInt ∧ p1.toInt ≤ 102)))
theorem zF_line {p0 p1 p2 k r k2 r2 : Int32} (h1 : zS_line p0 p1 p2 k r) (h2 : zS_line p0 p1 p2 k2 r2) : k = k2 ∧ (k = 0 → r = r2) := by
  unfold zS_line at h1 h2
  rcases h1 with ⟨rfl, g1⟩ | ⟨rfl, g1⟩ | ⟨rfl, g1⟩
  · rcases h2 with ⟨rfl, g2⟩ | ⟨rfl, g2⟩ | ⟨rfl, g2⟩
    · exact ⟨rfl, fun h => absurd h (by decide)⟩
    · exfalso; omega
    · exfalso; omega
  · rcases h2 with ⟨rfl, g2⟩ | ⟨rfl, g2⟩ | ⟨rfl, g2⟩
    · exfalso; omega
    · exact ⟨rfl, fun h => absurd h (by decide)⟩
    · exfalso; omega
  · rcases h2 with ⟨rfl, g2⟩ | ⟨rfl, g2⟩ | ⟨rfl, g2⟩
    · exfalso; omega
    · exfalso; omega
    · exact ⟨rfl, fun h => absurd h (by decide)⟩
def zS_step (p0 : Int32) (p1 : Int32) (p2 : Int32) (k r : Int32) : Prop := (k = 1 ∧ (¬ ((0 ≤ p0.toInt ∧ p0.toInt ≤ 3) ∧ (0 ≤ p2.toInt ∧ p2.toInt ≤ 9)))) ∨ (k = 2 ∧ (((0 ≤ p0.toInt ∧ p0.toInt ≤ 3) ∧ (0 ≤ p2.toInt ∧ p2.toInt ≤ 9))))
theorem zF_step {p0 p1 p2 k r k2 r2 : Int32} (h1 : zS_step p0 p1 p2 k r) (h2 : zS_step p0 p1 p2 k2 r2) : k = k2 ∧ (k = 0 → r = r2) := by
  unfold zS_step at h1 h2
  rcases h1 with ⟨rfl, g1⟩ | ⟨rfl, g1⟩
  · rcases h2 with ⟨rfl, g2⟩ | ⟨rfl, g2⟩
    · exact ⟨rfl, fun h => absurd h (by decide)⟩
    · exfalso; omega
  · rcases h2 with ⟨rfl, g2⟩ | ⟨rfl, g2⟩
    · exfalso; omega
    · exact ⟨rfl, fun h => absurd h (by decide)⟩
def zS_turn (p0 : Int32) (k r : Int32) : Prop := (k = 1 ∧ (¬ (0 ≤ p0.toInt ∧ p0.toInt ≤ 3))) ∨ (k = 0 ∧ ((0 ≤ p0.toInt ∧ p0.toInt ≤ 3)) ∧ r = 0)
theorem zF_turn {p0 k r k2 r2 : Int32} (h1 : zS_turn p0 k r) (h2 : zS_turn p0 k2 r2) : k = k2 ∧ (k = 0 → r = r2) := by
  unfold zS_turn at h1 h2
  rcases h1 with ⟨rfl, g1⟩ | ⟨rfl, g1, e1⟩
  · rcases h2 with ⟨rfl, g2⟩ | ⟨rfl, g2, e2⟩
    · exact ⟨rfl, fun h => absurd h (by decide)⟩
    · exfalso; omega
  · rcases h2 with ⟨rfl, g2⟩ | ⟨rfl, g2, e2⟩
    · exfalso; omega
    · exact ⟨rfl, fun _ => e1.trans e2.symm⟩
def zS_join (p0 : Int32) (p1 : Int32) (p2 : Int32) (k r : Int32) : Prop := (k = 1 ∧ (¬ ((0 ≤ p0.toInt ∧ p0.toInt ≤ 3) ∧ (0 ≤ p1.toInt ∧ p1.toInt ≤ 3) ∧ (0 ≤ p2.toInt ∧ p2.toInt ≤ 3)))) ∨ (k = 2 ∧ (((0 ≤ p0.toInt ∧ p0.toInt ≤ 3) ∧ (0 ≤ p1.toInt ∧ p1.toInt ≤ 3) ∧ (0 ≤ p2.toInt ∧ p2.toInt ≤ 3))))
theorem zF_join {p0 p1 p2 k r k2 r2 : Int32} (h1 : zS_join p0 p1 p2 k r) (h2 : zS_join p0 p1 p2 k2 r2) : k = k2 ∧ (k = 0 → r = r2) := by
  unfold zS_join at h1 h2
  rcases h1 with ⟨rfl, g1⟩ | ⟨rfl, g1⟩
  · rcases h2 with ⟨rfl, g2⟩ | ⟨rfl, g2⟩
    · exact ⟨rfl, fun h => absurd h (by decide)⟩
    · exfalso; omega
  · rcases h2 with ⟨rfl, g2⟩ | ⟨rfl, g2⟩
    · exfalso; omega
    · exact ⟨rfl, fun h => absurd h (by decide)⟩
def zS_cut (p0 : Int32) (p1 : Int32) (p2 : Int32) (p3 : Int32) (k r : Int32) : Prop := (k = 1 ∧ (True))
theorem zF_cut {p0 p1 p2 p3 k r k2 r2 : Int32} (h1 : zS_cut p0 p1 p2 p3 k r) (h2 : zS_cut p0 p1 p2 p3 k2 r2) : k = k2 ∧ (k = 0 → r = r2) := by
  unfold zS_cut at h1 h2
  obtain ⟨rfl, g1⟩ := h1
  obtain ⟨rfl, g2⟩ := h2
  exact ⟨rfl, fun h => absurd h (by decide)⟩
def zS_take (p0 : Int32) (p1 : Int32) (p2 : Int32) (k r : Int32) : Prop := (k = 1 ∧ (True))
theorem zF_take {p0 p1 p2 k r k2 r2 : Int32} (h1 : zS_take p0 p1 p2 k r) (h2 : zS_take p0 p1 p2 k2 r2) : k = k2 ∧ (k = 0 → r = r2) := by
  unfold zS_take at h1 h2
  obtain ⟨rfl, g1⟩ := h1
  obtain ⟨rfl, g2⟩ := h2
  exact ⟨rfl, fun h => absurd h (by decide)⟩
def zS_find (p0 : Int32) (p1 : Int32) (p2 : Int32) (p3 : Int32) (p4 : Int32) (k r : Int32) : Prop := (k = 1 ∧ (¬ ((0 ≤ p0.toInt ∧ p0.toInt ≤ 3) ∧ (0 ≤ p1.toInt ∧ p1.toInt ≤ 9) ∧ (0 ≤ p2.toInt ∧ p2.toInt ≤ 9)))) ∨ (k = 2 ∧ (((0 ≤ p0.toInt ∧ p0.toInt ≤ 3) ∧ (0 ≤ p1.toInt ∧ p1.toInt ≤ 9) ∧ (0 ≤ p2.toInt ∧ p2.toInt ≤ 9)) ∧ ¬ ((0 ≤ p3.toInt ∧ p3.toInt ≤ 2) ∧ (0 ≤ p4.toInt ∧ p4.toInt ≤ 4)))) ∨ (k = 3 ∧ (((0 ≤ p0.toInt ∧ p0.toInt ≤ 3) ∧ (0 ≤ p1.toInt ∧ p1.toInt ≤ 9) ∧ (0 ≤ p2.toInt ∧ p2.toInt ≤ 9)) ∧ ((0 ≤ p3.toInt ∧ p3.toInt ≤ 2) ∧ (0 ≤ p4.toInt ∧ p4.toInt ≤ 4))))
theorem zF_find {p0 p1 p2 p3 p4 k r k2 r2 : Int32} (h1 : zS_find p0 p1 p2 p3 p4 k r) (h2 : zS_find p0 p1 p2 p3 p4 k2 r2) : k = k2 ∧ (k = 0 → r = r2) := by
  unfold zS_find at h1 h2
  rcases h1 with ⟨rfl, g1⟩ | ⟨rfl, g1⟩ | ⟨rfl, g1⟩
  · rcases h2 with ⟨rfl, g2⟩ | ⟨rfl, g2⟩ | ⟨rfl, g2⟩
    · exact ⟨rfl, fun h => absurd h (by decide)⟩
    · exfalso; omega
    · exfalso; omega
  · rcases h2 with ⟨rfl, g2⟩ | ⟨rfl, g2⟩ | ⟨rfl, g2⟩
    · exfalso; omega
    · exact ⟨rfl, fun h => absurd h (by decide)⟩
    · exfalso; omega
  · rcases h2 with ⟨rfl, g2⟩ | ⟨rfl, g2⟩ | ⟨rfl, g2⟩
    · exfalso; omega
    · exfalso; omega
    · exact ⟨rfl, fun h => absurd h (by decide)⟩
def zS_restore (p0 : Int32) (k r : Int32) : Prop := (k = 1 ∧ (¬ (0 ≤ p0.toInt ∧ p0.toInt ≤ 1))) ∨ (k = 2 ∧ ((0 ≤ p0.toInt ∧ p0.toInt ≤ 1)))
theorem zF_restore {p0 k r k2 r2 : Int32} (h1 : zS_restore p0 k r) (h2 : zS_restore p0 k2 r2) : k = k2 ∧ (k = 0 → r = r2) := by
  unfold zS_restore at h1 h2
  rcases h1 with ⟨rfl, g1⟩ | ⟨rfl, g1⟩
  · rcases h2 with ⟨rfl, g2⟩ | ⟨rfl, g2⟩
    · exact ⟨rfl, fun h => absurd h (by decide)⟩
    · exfalso; omega
  · rcases h2 with ⟨rfl, g2⟩ | ⟨rfl, g2⟩
    · exfalso; omega
    · exact ⟨rfl, fun h => absurd h (by decide)⟩
def zS_undo  (k r : Int32) : Prop := (k = 1 ∧ (True))
theorem zF_undo { k r k2 r2 : Int32} (h1 : zS_undo k r) (h2 : zS_undo k2 r2) : k = k2 ∧ (k = 0 → r = r2) := by
  unfold zS_undo at h1 h2
  obtain ⟨rfl, g1⟩ := h1
  obtain ⟨rfl, g2⟩ := h2
  exact ⟨rfl, fun h => absurd h (by decide)⟩
def zS_image (p0 : Int32) (k r : Int32) : Prop := (k = 1 ∧ (¬ (0 ≤ p0.toInt ∧ p0.toInt ≤ 1))) ∨ (k = 0 ∧ ((0 ≤ p0.toInt ∧ p0.toInt ≤ 1)) ∧ r = 0)
theorem zF_image {p0 k r k2 r2 : Int32} (h1 : zS_image p0 k r) (h2 : zS_image p0 k2 r2) : k = k2 ∧ (k = 0 → r = r2) := by
  unfold zS_image at h1 h2
  rcases h1 with ⟨rfl, g1⟩ | ⟨rfl, g1, e1⟩
  · rcases h2 with ⟨rfl, g2⟩ | ⟨rfl, g2, e2⟩
    · exact ⟨rfl, fun h => absurd h (by decide)⟩
    · exfalso; omega
  · rcases h2 with ⟨rfl, g2⟩ | ⟨rfl, g2, e2⟩
    · exfalso; omega
    · exact ⟨rfl, fun _ => e1.trans e2.symm⟩
def zS_write (p0 : Int32) (k r : Int32) : Prop := (k = 1 ∧ (¬ (0 ≤ p0.toInt ∧ p0.toInt ≤ 9))) ∨ (k = 2 ∧ ((0 ≤ p0.toInt ∧ p0.toInt ≤ 9)))
theorem zF_write {p0 k r k2 r2 : Int32} (h1 : zS_write p0 k r) (h2 : zS_write p0 k2 r2) : k = k2 ∧ (k = 0 → r = r2) := by
  unfold zS_write at h1 h2
  rcases h1 with ⟨rfl, g1⟩ | ⟨rfl, g1⟩
  · rcases h2 with ⟨rfl, g2⟩ | ⟨rfl, g2⟩
    · exact ⟨rfl, fun h => absurd h (by decide)⟩
    · exfalso; omega
  · rcases h2 with ⟨rfl, g2⟩ | ⟨rfl, g2⟩
    · exfalso; omega
    · exact ⟨rfl, fun h => absurd h (by decide)⟩
def zS_writeLaw (p0 : Int32) (k r : Int32) : Prop := (k = 1 ∧ (True))
theorem zF_writeLaw {p0 k r k2 r2 : Int32} (h1 : zS_writeLaw p0 k r) (h2 : zS_writeLaw p0 k2 r2) : k = k2 ∧ (k = 0 → r = r2) := by
  unfold zS_writeLaw at h1 h2
  obtain ⟨rfl, g1⟩ := h1
  obtain ⟨rfl, g2⟩ := h2
  exact ⟨rfl, fun h => absurd h (by decide)⟩
def zS_outputAt (p0 : Int32) (k r : Int32) : Prop := (k = 1 ∧ (True))
theorem zF_outputAt {p0 k r k2 r2 : Int32} (h1 : zS_outputAt p0 k r) (h2 : zS_outputAt p0 k2 r2) : k = k2 ∧ (k = 0 → r = r2) := by
  unfold zS_outputAt at h1 h2
  obtain ⟨rfl, g1⟩ := h1
  obtain ⟨rfl, g2⟩ := h2
  exact ⟨rfl, fun h => absurd h (by decide)⟩
def zS_termAt (p0 : Int32) (p1 : Int32) (k r : Int32) : Prop := (k = 1 ∧ (¬ (0 ≤ p0.toInt ∧ p0.toInt ≤ 9))) ∨ (k = 2 ∧ ((0 ≤ p0.toInt ∧ p0.toInt ≤ 9) ∧ ¬ (0 ≤ p1.toInt ∧ p1.toInt ≤ 3))) ∨ (k = 0 ∧ ((0 ≤ p0.toInt ∧ p0.toInt ≤ 9) ∧ (0 ≤ p1.toInt ∧ p1.toInt ≤ 3)) ∧ r = (-1))
theorem zF_termAt {p0 p1 k r k2 r2 : Int32} (h1 : zS_termAt p0 p1 k r) (h2 : zS_termAt p0 p1 k2 r2) : k = k2 ∧ (k = 0 → r = r2) := by
  unfold zS_termAt at h1 h2
  rcases h1 with ⟨rfl, g1⟩ | ⟨rfl, g1⟩ | ⟨rfl, g1, e1⟩
  · rcases h2 with ⟨rfl, g2⟩ | ⟨rfl, g2⟩ | ⟨rfl, g2, e2⟩
    · exact ⟨rfl, fun h => absurd h (by decide)⟩
    · exfalso; omega
    · exfalso; omega
  · rcases h2 with ⟨rfl, g2⟩ | ⟨rfl, g2⟩ | ⟨rfl, g2, e2⟩
    · exfalso; omega
    · exact ⟨rfl, fun h => absurd h (by decide)⟩
    · exfalso; omega
  · rcases h2 with ⟨rfl, g2⟩ | ⟨rfl, g2⟩ | ⟨rfl, g2, e2⟩
    · exfalso; omega
    · exfalso; omega
    · exact ⟨rfl, fun _ => e1.trans e2.symm⟩
def zS_areSame (p0 : Int32) (p1 : Int32) (k r : Int32) : Prop := (k = 1 ∧ (¬ ((0 ≤ p0.toInt ∧ p0.toInt ≤ 9) ∧ (0 ≤ p1.toInt ∧ p1.toInt ≤ 9)))) ∨ (k = 0 ∧ (((0 ≤ p0.toInt ∧ p0.toInt ≤ 9) ∧ (0 ≤ p1.toInt ∧ p1.toInt ≤ 9))) ∧ r = 0)
theorem zF_areSame {p0 p1 k r k2 r2 : Int32} (h1 : zS_areSame p0 p1 k r) (h2 : zS_areSame p0 p1 k2 r2) : k = k2 ∧ (k = 0 → r = r2) := by
  unfold zS_areSame at h1 h2
  rcases h1 with ⟨rfl, g1⟩ | ⟨rfl, g1, e1⟩
  · rcases h2 with ⟨rfl, g2⟩ | ⟨rfl, g2, e2⟩
    · exact ⟨rfl, fun h => absurd h (by decide)⟩
    · exfalso; omega
  · rcases h2 with ⟨rfl, g2⟩ | ⟨rfl, g2, e2⟩
    · exfalso; omega
    · exact ⟨rfl, fun _ => e1.trans e2.symm⟩
def zS_direction (p0 : Int32) (p1 : Int32) (k r : Int32) : Prop := (k = 1 ∧ (¬ (0 ≤ p0.toInt ∧ p0.toInt ≤ 9))) ∨ (k = 2 ∧ ((0 ≤ p0.toInt ∧ p0.toInt ≤ 9)))
theorem zF_direction {p0 p1 k r k2 r2 : Int32} (h1 : zS_direction p0 p1 k r) (h2 : zS_direction p0 p1 k2 r2) : k = k2 ∧ (k = 0 → r = r2) := by
  unfold zS_direction at h1 h2
  rcases h1 with ⟨rfl, g1⟩ | ⟨rfl, g1⟩
  · rcases h2 with ⟨rfl, g2⟩ | ⟨rfl, g2⟩
    · exact ⟨rfl, fun h => absurd h (by decide)⟩
    · exfalso; omega
  · rcases h2 with ⟨rfl, g2⟩ | ⟨rfl, g2⟩
    · exfalso; omega
    · exact ⟨rfl, fun h => absurd h (by decide)⟩
def zS_lawAt (p0 : Int32) (p1 : Int32) (k r : Int32) : Prop := (k = 1 ∧ (True))
theorem zF_lawAt {p0 p1 k r k2 r2 : Int32} (h1 : zS_lawAt p0 p1 k r) (h2 : zS_lawAt p0 p1 k2 r2) : k = k2 ∧ (k = 0 → r = r2) := by
  unfold zS_lawAt at h1 h2
  obtain ⟨rfl, g1⟩ := h1
  obtain ⟨rfl, g2⟩ := h2
  exact ⟨rfl, fun h => absurd h (by decide)⟩
def zS_rests (p0 : Int32) (p1 : Int32) (k r : Int32) : Prop := (k = 1 ∧ (True))
theorem zF_rests {p0 p1 k r k2 r2 : Int32} (h1 : zS_rests p0 p1 k r) (h2 : zS_rests p0 p1 k2 r2) : k = k2 ∧ (k = 0 → r = r2) := by
  unfold zS_rests at h1 h2
  obtain ⟨rfl, g1⟩ := h1
  obtain ⟨rfl, g2⟩ := h2
  exact ⟨rfl, fun h => absurd h (by decide)⟩
def zS_lines (p0 : Int32) (k r : Int32) : Prop := (k = 1 ∧ (¬ (0 ≤ p0.toInt ∧ p0.toInt ≤ 3))) ∨ (k = 0 ∧ ((0 ≤ p0.toInt ∧ p0.toInt ≤ 3)) ∧ r = 0)
theorem zF_lines {p0 k r k2 r2 : Int32} (h1 : zS_lines p0 k r) (h2 : zS_lines p0 k2 r2) : k = k2 ∧ (k = 0 → r = r2) := by
  unfold zS_lines at h1 h2
  rcases h1 with ⟨rfl, g1⟩ | ⟨rfl, g1, e1⟩
  · rcases h2 with ⟨rfl, g2⟩ | ⟨rfl, g2, e2⟩
    · exact ⟨rfl, fun h => absurd h (by decide)⟩
    · exfalso; omega
  · rcases h2 with ⟨rfl, g2⟩ | ⟨rfl, g2, e2⟩
    · exfalso; omega
    · exact ⟨rfl, fun _ => e1.trans e2.symm⟩
def zS_wrong (p0 : Int32) (k r : Int32) : Prop := (k = 1 ∧ (¬ (0 ≤ p0.toInt ∧ p0.toInt ≤ 3))) ∨ (k = 0 ∧ ((0 ≤ p0.toInt ∧ p0.toInt ≤ 3)) ∧ r = (-1))
theorem zF_wrong {p0 k r k2 r2 : Int32} (h1 : zS_wrong p0 k r) (h2 : zS_wrong p0 k2 r2) : k = k2 ∧ (k = 0 → r = r2) := by
  unfold zS_wrong at h1 h2
  rcases h1 with ⟨rfl, g1⟩ | ⟨rfl, g1, e1⟩
  · rcases h2 with ⟨rfl, g2⟩ | ⟨rfl, g2, e2⟩
    · exact ⟨rfl, fun h => absurd h (by decide)⟩
    · exfalso; omega
  · rcases h2 with ⟨rfl, g2⟩ | ⟨rfl, g2, e2⟩
    · exfalso; omega
    · exact ⟨rfl, fun _ => e1.trans e2.symm⟩
def zS_relation (p0 : Int32) (k r : Int32) : Prop := (k = 1 ∧ (¬ (0 ≤ p0.toInt ∧ p0.toInt ≤ 3))) ∨ (k = 0 ∧ ((0 ≤ p0.toInt ∧ p0.toInt ≤ 3)) ∧ r = (-1))
theorem zF_relation {p0 k r k2 r2 : Int32} (h1 : zS_relation p0 k r) (h2 : zS_relation p0 k2 r2) : k = k2 ∧ (k = 0 → r = r2) := by
  unfold zS_relation at h1 h2
  rcases h1 with ⟨rfl, g1⟩ | ⟨rfl, g1, e1⟩
  · rcases h2 with ⟨rfl, g2⟩ | ⟨rfl, g2, e2⟩
    · exact ⟨rfl, fun h => absurd h (by decide)⟩
    · exfalso; omega
  · rcases h2 with ⟨rfl, g2⟩ | ⟨rfl, g2, e2⟩
    · exfalso; omega
    · exact ⟨rfl, fun _ => e1.trans e2.symm⟩
def zS_stepAt (p0 : Int32) (p1 : Int32) (p2 : Int32) (k r : Int32) : Prop := (k = 1 ∧ (True))
theorem zF_stepAt {p0 p1 p2 k r k2 r2 : Int32} (h1 : zS_stepAt p0 p1 p2 k r) (h2 : zS_stepAt p0 p1 p2 k2 r2) : k = k2 ∧ (k = 0 → r = r2) := by
  unfold zS_stepAt at h1 h2
  obtain ⟨rfl, g1⟩ := h1
  obtain ⟨rfl, g2⟩ := h2
  exact ⟨rfl, fun h => absurd h (by decide)⟩
def zS_needs (p0 : Int32) (k r : Int32) : Prop := (k = 1 ∧ (¬ (0 ≤ p0.toInt ∧ p0.toInt ≤ 3))) ∨ (k = 0 ∧ ((0 ≤ p0.toInt ∧ p0.toInt ≤ 3)) ∧ r = 0)
theorem zF_needs {p0 k r k2 r2 : Int32} (h1 : zS_needs p0 k r) (h2 : zS_needs p0 k2 r2) : k = k2 ∧ (k = 0 → r = r2) := by
  unfold zS_needs at h1 h2
  rcases h1 with ⟨rfl, g1⟩ | ⟨rfl, g1, e1⟩
  · rcases h2 with ⟨rfl, g2⟩ | ⟨rfl, g2, e2⟩
    · exact ⟨rfl, fun h => absurd h (by decide)⟩
    · exfalso; omega
  · rcases h2 with ⟨rfl, g2⟩ | ⟨rfl, g2, e2⟩
    · exfalso; omega
    · exact ⟨rfl, fun _ => e1.trans e2.symm⟩
def zS_fails (p0 : Int32) (p1 : Int32) (p2 : Int32) (p3 : Int32) (k r : Int32) : Prop := (k = 1 ∧ (¬ ((0 ≤ p0.toInt ∧ p0.toInt ≤ 9) ∧ (0 ≤ p2.toInt ∧ p2.toInt ≤ 9)))) ∨ (k = 2 ∧ (((0 ≤ p0.toInt ∧ p0.toInt ≤ 9) ∧ (0 ≤ p2.toInt ∧ p2.toInt ≤ 9))))
theorem zF_fails {p0 p1 p2 p3 k r k2 r2 : Int32} (h1 : zS_fails p0 p1 p2 p3 k r) (h2 : zS_fails p0 p1 p2 p3 k2 r2) : k = k2 ∧ (k = 0 → r = r2) := by
  unfold zS_fails at h1 h2
  rcases h1 with ⟨rfl, g1⟩ | ⟨rfl, g1⟩
  · rcases h2 with ⟨rfl, g2⟩ | ⟨rfl, g2⟩
    · exact ⟨rfl, fun h => absurd h (by decide)⟩
    · exfalso; omega
  · rcases h2 with ⟨rfl, g2⟩ | ⟨rfl, g2⟩
    · exfalso; omega
    · exact ⟨rfl, fun h => absurd h (by decide)⟩
def zS_value (p0 : Int32) (p1 : Int32) (p2 : Int32) (k r : Int32) : Prop := (k = 1 ∧ (¬ (0 ≤ p1.toInt ∧ p1.toInt ≤ 9))) ∨ (k = 2 ∧ ((0 ≤ p1.toInt ∧ p1.toInt ≤ 9)))
theorem zF_value {p0 p1 p2 k r k2 r2 : Int32} (h1 : zS_value p0 p1 p2 k r) (h2 : zS_value p0 p1 p2 k2 r2) : k = k2 ∧ (k = 0 → r = r2) := by
  unfold zS_value at h1 h2
  rcases h1 with ⟨rfl, g1⟩ | ⟨rfl, g1⟩
  · rcases h2 with ⟨rfl, g2⟩ | ⟨rfl, g2⟩
    · exact ⟨rfl, fun h => absurd h (by decide)⟩
    · exfalso; omega
  · rcases h2 with ⟨rfl, g2⟩ | ⟨rfl, g2⟩
    · exfalso; omega
    · exact ⟨rfl, fun h => absurd h (by decide)⟩
set_option maxHeartbeats 4000000 in
set_option maxRecDepth 100000 in
theorem k_X12_term (l : Launch) (sz : Nat) (D : va_G) (a : Nat → Nat) (cI : ClassId) (p0 p1 p2 p3 : Int32) : Met l yX12_term (.code yX12_term cX12_term 8 (some .int) :: zT) ({ frames := 2, cells := 0, slots := 0, locals := 43 }) (va_Pc [.ref (a 0), .int p0, .int p1, .int p2, .int p3] (zM D [((a 0), .inr (12, zMo a zI0)), ((a 1), .inl (cI, 6792, .inl zI0))] [(cI, .int)] sz)) (va_Qi (fun (r : Int32) (u : Nat → Int32) => zS_term p0 p1 p2 p3 (u 0) r) (fun u t => zE D [(a 0, .inr (12, zMo a u))] [] (va_A [((a 0), .inr (12, zMo a zI0)), ((a 1), .inl (cI, 6792, .inl zI0))] sz) t) (va_A [((a 0), .inr (12, zMo a zI0)), ((a 1), .inl (cI, 6792, .inl zI0))] sz)) 0 0 (va_A [((a 0), .inr (12, zMo a zI0)), ((a 1), .inl (cI, 6792, .inl zI0))] sz) := by
  refine Met.ofW (cc := cX12_term) (maxL := 8) (ret := (some .int)) (by decide) rfl ?_
  intro p e s m args below meth c s₁ B hml hv
  obtain ⟨rfl, hsz, hP, hK, hD0⟩ := hv
  have hx := B.exec
  have hb := B.bytes
  have hr := B.returns
  have hts := atoms_spec (ws := (.code yX12_term cX12_term 8 (some .int) :: zT)) B.pre
  have ht : ∀ w ∈ zT, w.before _ s = true := fun w h => hts w (List.mem_cons_of_mem _ h)
  have hown : s.vm.findClass RX12 = some m.cls := findClass_of_methodNamed B.named
  have hlocks := B.notSynchronized
  subst hsz
  have hD := hD0.self (sz := s.heap.size)
  generalize hAe : va_A [((a 0), .inr (12, zMo a zI0)), ((a 1), .inl (cI, 6792, .inl zI0))] s.heap.size = A at hD ⊢
  have hA : ∀ q : Nat, s.heap.size ≤ q → A q := fun q h => by rw [← hAe]; exact Or.inr h
  have hS : va_S A s.heap s.heap [] := va_S.rf
  have hP : va_P D vwCl [((a 0), .inr (12, zMo a zI0)), ((a 1), .inl (cI, 6792, .inl zI0))] s.heap := hP
  have hl := lv_entry ([.ref (a 0), .int p0, .int p1, .int p2, .int p3]) (n := 8) (Nat.le_of_ble_eq_true rfl)
  rw [lg_entry_eq]
  generalize (lg_sl ([.ref (a 0), .int p0, .int p1, .int p2, .int p3]) ++ List.replicate (8 - (lg_sl ([.ref (a 0), .int p0, .int p1, .int p2, .int p3])).length) Slot.unset).toArray = ls at hl ⊢
  have hl : lv_has ls 8 [(0, .ref (a 0)), (1, .int p0), (2, .int p1), (3, .int p2), (4, .int p3)] := hl
  skip
  refine lv_aload_n hx hb dX12_term_0 rfl (lv_at hl 0 rfl) ?_
  refine lv_iload_n hx hb dX12_term_1 rfl (lv_at hl 1 rfl) ?_
  refine vp_callSi (va_runS (As := [.int p0]) (rest := [.ref (a 0)]) ⟨hx, hb, hml, hown, ht⟩ (k_X12_isRegister l p0) (va_cwS 1 ht (zG_S zw_59 zw_60 zw_2 zw_61) rfl rfl rfl (by decide +kernel) ⟨Nat.le_of_ble_eq_true rfl, Nat.le_of_ble_eq_true rfl⟩) zN_S rfl rfl hl.1 rfl (lv_room (Nat.le_of_ble_eq_true rfl)) dX12_term_2 ⟨Nat.le_of_ble_eq_true rfl, Nat.le_of_ble_eq_true rfl⟩).run (fun r_1 hw_1 => ?_)
  rcases hw_1 with ⟨rfl, h_1⟩ | ⟨rfl, h_1⟩
  · skip
    refine lv_if_eq (tgt := 28) hx hb dX12_term_5 (by decide) (fun c_2 => ?_) (fun c_2 => ?_)
    · skip
      exact absurd c_2 (by decide)
    · skip
      refine lv_iload_n hx hb dX12_term_8 rfl (lv_at hl 2 rfl) ?_
      refine lv_iconst (v := 0) hx hb dX12_term_9 (by decide) ?_
      refine lv_aload_n hx hb dX12_term_10 rfl (lv_at hl 0 rfl) ?_
      refine va_get (D := D) (ci := 12) (v := .ref (a 1)) (C := RX12) (T := TX12) (N := 25) hx hb ht zinX12 hown hK hP 0 rfl rfl 1 (by decide) (ht _ zw_34) (fun _ h9 => h9) rfl dX12_term_11 ?_
      refine lv_iconst (v := 0) hx hb dX12_term_14 (by decide) ?_
      refine va_iald hx hb hK hP 1 0 rfl rfl (vp_in_iff.mpr (by decide)) dX12_term_15 ?_
      refine W.eq (g2 := F0 m 16 ls (.int 0 :: .int 0 :: .int p1 :: .ref (a 0) :: [])) rfl ?_
      refine lv_iconst (v := 1) hx hb dX12_term_16 (by decide) ?_
      refine lv_isub hx hb dX12_term_17 ?_
      refine lv_topi (fun x_4 e_4 => ?_)
      obtain rfl : x_4 = (-1) := e_4.trans (by decide)
      refine vp_callSi (va_runS (As := [.int p1, .int 0, .int (-1)]) (rest := [.ref (a 0)]) ⟨hx, hb, hml, hown, ht⟩ (k_X12_in l p1 0 (-1)) (va_cwS 3 ht (zG_S zw_0 zw_1 zw_2 zw_3) rfl rfl rfl (by decide +kernel) ⟨Nat.le_of_ble_eq_true rfl, Nat.le_of_ble_eq_true rfl⟩) zN_S rfl rfl hl.1 rfl (lv_room (Nat.le_of_ble_eq_true rfl)) dX12_term_18 ⟨Nat.le_of_ble_eq_true rfl, Nat.le_of_ble_eq_true rfl⟩).run (fun r_5 hw_5 => ?_)
      rcases hw_5 with ⟨rfl, h_5⟩ | ⟨rfl, h_5⟩
      · skip
        simp only [Int32.reduceToInt] at h_5
        exfalso; omega
      · skip
        simp only [Int32.reduceToInt] at h_5
        refine lv_if_eq (tgt := 28) hx hb dX12_term_21 (by decide) (fun c_6 => ?_) (fun c_6 => ?_)
        · skip
          refine lv_iconst (v := 0) hx hb dX12_term_28 (by decide) ?_
          have hPc := hP.sub (ws' := [((a 0), .inr (12, zMo a zI0))]) [0] rfl
          have hDc := hD.sub (ws' := [((a 0), .inr (12, zMo a zI0))]) [0] (by decide) rfl
          have hKc := hK.sub (tys' := []) [] rfl
          have hFc := va_free (wc := [((a 0), .inr (12, zMo a zI0))]) hD hS hA [0] rfl
          refine va_calli (va_runV (As := [.int 0]) (rest := []) ⟨hx, hb, hml, hown, ht⟩ (k_X12_lacks l _ D a zI0 0 (by decide)) (cwV 1 ht (zG_V zw_62 zw_63 zw_64 zw_2 zw_65) rfl rfl rfl (by decide +kernel) ⟨Nat.le_of_ble_eq_true rfl, Nat.le_of_ble_eq_true rfl⟩) (zM_V (va_recv hK hP (ci := 12) (q0 := 0) rfl rfl) hPc hKc hDc) rfl rfl hl.1 rfl (lv_room (Nat.le_of_ble_eq_true rfl)) dX12_term_29 ⟨Nat.le_of_ble_eq_true rfl, Nat.le_of_ble_eq_true rfl⟩) hS (fun q _ h => hFc q h) hFc (fun r_7 u_7 t H1 locs ht0 hvm hw_7 hB hz1 hk1 hS => ?_)
          obtain ⟨rfl, rfl⟩ := hw_7.1 rfl
          obtain ⟨hP1, hK1, hD1⟩ := hB
          rw [ht0] at hP1
          have hK1 := va_K.moved hvm.symm hK1
          obtain ⟨hP, hD⟩ := va_join (wr := [((a 1), .inl (cI, 6792, .inl zI0))]) (w1 := [((a 0), .inr (12, zMo a (upd zI0 0 1)))]) hP hD [0] [1] rfl rfl (by decide) (by decide) hk1 hFc hP1 hD1
          generalize H1 = H at hP hS ⊢
          have hP : va_P D vwCl [((a 1), .inl (cI, 6792, .inl zI0)), ((a 0), .inr (12, zMo a (upd zI0 0 1)))] H := hP
          have hD : va_D A [((a 1), .inl (cI, 6792, .inl zI0)), ((a 0), .inr (12, zMo a (upd zI0 0 1)))] := hD
          refine lv_if_eq (tgt := 37) hx hb dX12_term_32 (by decide) (fun c_8 => ?_) (fun c_8 => ?_)
          · skip
            exact absurd c_8 (by decide)
          · skip
            refine lv_iconst (v := 0) hx hb dX12_term_35 (by decide) ?_
            have hP9 := hP.sub (ws' := [((a 0), .inr (12, zMo a (upd zI0 0 1)))]) [1] rfl
            have hD9 := hD.sub (ws' := [((a 0), .inr (12, zMo a (upd zI0 0 1)))]) [1] (by decide) rfl
            have hK9 := hK.sub (tys' := []) [] rfl
            refine W.widen (k := 0) (n := 0) (Nat.le_of_ble_eq_true rfl) (Nat.le_of_ble_eq_true rfl) ?_
            exact W.iret (v := 0) hx hb hr (fun t ht0 hW => ⟨⟨0, upd zI0 0 1, rfl, (show zS_term p0 p1 p2 p3 1 0 from ⟨rfl, by trivial⟩), (zE_of hP9 hK9 hD9 ht0 hW)⟩, hS.F ht0⟩) hS.2.2 dX12_term_36
        · skip
          exact absurd c_6 (by decide)
  · skip
    refine lv_if_eq (tgt := 28) hx hb dX12_term_5 (by decide) (fun c_9 => ?_) (fun c_9 => ?_)
    · skip
      refine lv_iconst (v := 0) hx hb dX12_term_28 (by decide) ?_
      have hPc := hP.sub (ws' := [((a 0), .inr (12, zMo a zI0))]) [0] rfl
      have hDc := hD.sub (ws' := [((a 0), .inr (12, zMo a zI0))]) [0] (by decide) rfl
      have hKc := hK.sub (tys' := []) [] rfl
      have hFc := va_free (wc := [((a 0), .inr (12, zMo a zI0))]) hD hS hA [0] rfl
      refine va_calli (va_runV (As := [.int 0]) (rest := []) ⟨hx, hb, hml, hown, ht⟩ (k_X12_lacks l _ D a zI0 0 (by decide)) (cwV 1 ht (zG_V zw_62 zw_63 zw_64 zw_2 zw_65) rfl rfl rfl (by decide +kernel) ⟨Nat.le_of_ble_eq_true rfl, Nat.le_of_ble_eq_true rfl⟩) (zM_V (va_recv hK hP (ci := 12) (q0 := 0) rfl rfl) hPc hKc hDc) rfl rfl hl.1 rfl (lv_room (Nat.le_of_ble_eq_true rfl)) dX12_term_29 ⟨Nat.le_of_ble_eq_true rfl, Nat.le_of_ble_eq_true rfl⟩) hS (fun q _ h => hFc q h) hFc (fun r_10 u_10 t H1 locs ht0 hvm hw_10 hB hz1 hk1 hS => ?_)
      obtain ⟨rfl, rfl⟩ := hw_10.1 rfl
      obtain ⟨hP1, hK1, hD1⟩ := hB
      rw [ht0] at hP1
      have hK1 := va_K.moved hvm.symm hK1
      obtain ⟨hP, hD⟩ := va_join (wr := [((a 1), .inl (cI, 6792, .inl zI0))]) (w1 := [((a 0), .inr (12, zMo a (upd zI0 0 1)))]) hP hD [0] [1] rfl rfl (by decide) (by decide) hk1 hFc hP1 hD1
      generalize H1 = H at hP hS ⊢
      have hP : va_P D vwCl [((a 1), .inl (cI, 6792, .inl zI0)), ((a 0), .inr (12, zMo a (upd zI0 0 1)))] H := hP
      have hD : va_D A [((a 1), .inl (cI, 6792, .inl zI0)), ((a 0), .inr (12, zMo a (upd zI0 0 1)))] := hD
      refine lv_if_eq (tgt := 37) hx hb dX12_term_32 (by decide) (fun c_11 => ?_) (fun c_11 => ?_)
      · skip
        exact absurd c_11 (by decide)
      · skip
        refine lv_iconst (v := 0) hx hb dX12_term_35 (by decide) ?_
        have hP9 := hP.sub (ws' := [((a 0), .inr (12, zMo a (upd zI0 0 1)))]) [1] rfl
        have hD9 := hD.sub (ws' := [((a 0), .inr (12, zMo a (upd zI0 0 1)))]) [1] (by decide) rfl
        have hK9 := hK.sub (tys' := []) [] rfl
        refine W.widen (k := 0) (n := 0) (Nat.le_of_ble_eq_true rfl) (Nat.le_of_ble_eq_true rfl) ?_
        exact W.iret (v := 0) hx hb hr (fun t ht0 hW => ⟨⟨0, upd zI0 0 1, rfl, (show zS_term p0 p1 p2 p3 1 0 from ⟨rfl, by trivial⟩), (zE_of hP9 hK9 hD9 ht0 hW)⟩, hS.F ht0⟩) hS.2.2 dX12_term_36
    · skip
      exact absurd c_9 (by decide)
set_option maxHeartbeats 4000000 in
set_option maxRecDepth 100000 in
theorem k_X12_law (l : Launch) (sz : Nat) (D : va_G) (a : Nat → Nat) (cI : ClassId) (p0 p1 p2 p3 : Int32) : Met l yX12_law (.code yX12_law cX12_law 6 (some .int) :: zT) ({ frames := 2, cells := 0, slots := 0, locals := 43 }) (va_Pc [.ref (a 0), .int p0, .int p1, .int p2, .int p3] (zM D [((a 0), .inr (12, zMo a zI0)), ((a 1), .inl (cI, 6792, .inl zI0))] [(cI, .int)] sz)) (va_Qi (fun (r : Int32) (u : Nat → Int32) => zS_law p0 p1 p2 p3 (u 0) r) (fun u t => zE D [(a 0, .inr (12, zMo a u))] [] (va_A [((a 0), .inr (12, zMo a zI0)), ((a 1), .inl (cI, 6792, .inl zI0))] sz) t) (va_A [((a 0), .inr (12, zMo a zI0)), ((a 1), .inl (cI, 6792, .inl zI0))] sz)) 0 0 (va_A [((a 0), .inr (12, zMo a zI0)), ((a 1), .inl (cI, 6792, .inl zI0))] sz) := by
  refine Met.ofW (cc := cX12_law) (maxL := 6) (ret := (some .int)) (by decide) rfl ?_
  intro p e s m args below meth c s₁ B hml hv
  obtain ⟨rfl, hsz, hP, hK, hD0⟩ := hv
  have hx := B.exec
  have hb := B.bytes
  have hr := B.returns
  have hts := atoms_spec (ws := (.code yX12_law cX12_law 6 (some .int) :: zT)) B.pre
  have ht : ∀ w ∈ zT, w.before _ s = true := fun w h => hts w (List.mem_cons_of_mem _ h)
  have hown : s.vm.findClass RX12 = some m.cls := findClass_of_methodNamed B.named
  have hlocks := B.notSynchronized
  subst hsz
  have hD := hD0.self (sz := s.heap.size)
  generalize hAe : va_A [((a 0), .inr (12, zMo a zI0)), ((a 1), .inl (cI, 6792, .inl zI0))] s.heap.size = A at hD ⊢
  have hA : ∀ q : Nat, s.heap.size ≤ q → A q := fun q h => by rw [← hAe]; exact Or.inr h
  have hS : va_S A s.heap s.heap [] := va_S.rf
  have hP : va_P D vwCl [((a 0), .inr (12, zMo a zI0)), ((a 1), .inl (cI, 6792, .inl zI0))] s.heap := hP
  have hl := lv_entry ([.ref (a 0), .int p0, .int p1, .int p2, .int p3]) (n := 6) (Nat.le_of_ble_eq_true rfl)
  rw [lg_entry_eq]
  generalize (lg_sl ([.ref (a 0), .int p0, .int p1, .int p2, .int p3]) ++ List.replicate (6 - (lg_sl ([.ref (a 0), .int p0, .int p1, .int p2, .int p3])).length) Slot.unset).toArray = ls at hl ⊢
  have hl : lv_has ls 6 [(0, .ref (a 0)), (1, .int p0), (2, .int p1), (3, .int p2), (4, .int p3)] := hl
  skip
  refine lv_aload_n hx hb dX12_law_0 rfl (lv_at hl 0 rfl) ?_
  refine lv_iload_n hx hb dX12_law_1 rfl (lv_at hl 1 rfl) ?_
  refine vp_callSi (va_runS (As := [.int p0]) (rest := [.ref (a 0)]) ⟨hx, hb, hml, hown, ht⟩ (k_X12_isName l p0) (va_cwS 1 ht (zG_S zw_66 zw_67 zw_2 zw_68) rfl rfl rfl (by decide +kernel) ⟨Nat.le_of_ble_eq_true rfl, Nat.le_of_ble_eq_true rfl⟩) zN_S rfl rfl hl.1 rfl (lv_room (Nat.le_of_ble_eq_true rfl)) dX12_law_2 ⟨Nat.le_of_ble_eq_true rfl, Nat.le_of_ble_eq_true rfl⟩).run (fun r_1 hw_1 => ?_)
  rcases hw_1 with ⟨rfl, h_1⟩ | ⟨rfl, h_1⟩
  · skip
    refine lv_if_eq (tgt := 21) hx hb dX12_law_5 (by decide) (fun c_2 => ?_) (fun c_2 => ?_)
    · skip
      exact absurd c_2 (by decide)
    · skip
      refine lv_iload_n hx hb dX12_law_8 rfl (lv_at hl 3 rfl) ?_
      refine lv_iconst (v := 0) hx hb dX12_law_9 (by decide) ?_
      refine lv_iconst (v := 1) hx hb dX12_law_10 (by decide) ?_
      refine vp_callSi (va_runS (As := [.int p2, .int 0, .int 1]) (rest := [.ref (a 0)]) ⟨hx, hb, hml, hown, ht⟩ (k_X12_in l p2 0 1) (va_cwS 3 ht (zG_S zw_0 zw_1 zw_2 zw_3) rfl rfl rfl (by decide +kernel) ⟨Nat.le_of_ble_eq_true rfl, Nat.le_of_ble_eq_true rfl⟩) zN_S rfl rfl hl.1 rfl (lv_room (Nat.le_of_ble_eq_true rfl)) dX12_law_11 ⟨Nat.le_of_ble_eq_true rfl, Nat.le_of_ble_eq_true rfl⟩).run (fun r_3 hw_3 => ?_)
      rcases hw_3 with ⟨rfl, h_3⟩ | ⟨rfl, h_3⟩
      · skip
        simp only [Int32.reduceToInt] at h_3
        refine lv_if_eq (tgt := 21) hx hb dX12_law_14 (by decide) (fun c_4 => ?_) (fun c_4 => ?_)
        · skip
          exact absurd c_4 (by decide)
        · skip
          refine lv_iconst (v := 1) hx hb dX12_law_17 (by decide) ?_
          refine lv_goto (tgt := 22) hx hb dX12_law_18 (by decide) ?_
          have hPc := hP.sub (ws' := [((a 0), .inr (12, zMo a zI0))]) [0] rfl
          have hDc := hD.sub (ws' := [((a 0), .inr (12, zMo a zI0))]) [0] (by decide) rfl
          have hKc := hK.sub (tys' := []) [] rfl
          have hFc := va_free (wc := [((a 0), .inr (12, zMo a zI0))]) hD hS hA [0] rfl
          refine va_calli (va_runV (As := [.int 1]) (rest := []) ⟨hx, hb, hml, hown, ht⟩ (k_X12_lacks l _ D a zI0 1 (by decide)) (cwV 1 ht (zG_V zw_62 zw_63 zw_64 zw_2 zw_65) rfl rfl rfl (by decide +kernel) ⟨Nat.le_of_ble_eq_true rfl, Nat.le_of_ble_eq_true rfl⟩) (zM_V (va_recv hK hP (ci := 12) (q0 := 0) rfl rfl) hPc hKc hDc) rfl rfl hl.1 rfl (lv_room (Nat.le_of_ble_eq_true rfl)) dX12_law_22 ⟨Nat.le_of_ble_eq_true rfl, Nat.le_of_ble_eq_true rfl⟩) hS (fun q _ h => hFc q h) hFc (fun r_5 u_5 t H1 locs ht0 hvm hw_5 hB hz1 hk1 hS => ?_)
          obtain ⟨rfl, rfl⟩ := hw_5.2 (by decide)
          obtain ⟨hP1, hK1, hD1⟩ := hB
          rw [ht0] at hP1
          have hK1 := va_K.moved hvm.symm hK1
          obtain ⟨hP, hD⟩ := va_join (wr := [((a 1), .inl (cI, 6792, .inl zI0))]) (w1 := [((a 0), .inr (12, zMo a (upd zI0 0 0)))]) hP hD [0] [1] rfl rfl (by decide) (by decide) hk1 hFc hP1 hD1
          generalize H1 = H at hP hS ⊢
          have hP : va_P D vwCl [((a 1), .inl (cI, 6792, .inl zI0)), ((a 0), .inr (12, zMo a (upd zI0 0 0)))] H := hP
          have hD : va_D A [((a 1), .inl (cI, 6792, .inl zI0)), ((a 0), .inr (12, zMo a (upd zI0 0 0)))] := hD
          refine lv_if_ne (tgt := 56) hx hb dX12_law_25 (by decide) (fun c_6 => ?_) (fun c_6 => ?_)
          · skip
            exact absurd c_6 (by decide)
          · skip
            refine lv_aload_n hx hb dX12_law_28 rfl (lv_at hl 0 rfl) ?_
            refine lv_iload_n hx hb dX12_law_29 rfl (lv_at hl 2 rfl) ?_
            refine vp_callSi (va_runS (As := [.int p1]) (rest := [.ref (a 0)]) ⟨hx, hb, hml, hown, ht⟩ (k_X12_isRegister l p1) (va_cwS 1 ht (zG_S zw_59 zw_60 zw_2 zw_61) rfl rfl rfl (by decide +kernel) ⟨Nat.le_of_ble_eq_true rfl, Nat.le_of_ble_eq_true rfl⟩) zN_S rfl rfl hl.1 rfl (lv_room (Nat.le_of_ble_eq_true rfl)) dX12_law_30 ⟨Nat.le_of_ble_eq_true rfl, Nat.le_of_ble_eq_true rfl⟩).run (fun r_7 hw_7 => ?_)
            rcases hw_7 with ⟨rfl, h_7⟩ | ⟨rfl, h_7⟩
            · skip
              refine lv_if_eq (tgt := 48) hx hb dX12_law_33 (by decide) (fun c_8 => ?_) (fun c_8 => ?_)
              · skip
                exact absurd c_8 (by decide)
              · skip
                refine lv_iload hx hb dX12_law_36 (lv_at hl 4 rfl) ?_
                refine vp_callSi (va_runS (As := [.int p3]) (rest := [.ref (a 0)]) ⟨hx, hb, hml, hown, ht⟩ (k_X12_isRegister l p3) (va_cwS 1 ht (zG_S zw_59 zw_60 zw_2 zw_61) rfl rfl rfl (by decide +kernel) ⟨Nat.le_of_ble_eq_true rfl, Nat.le_of_ble_eq_true rfl⟩) zN_S rfl rfl hl.1 rfl (lv_room (Nat.le_of_ble_eq_true rfl)) dX12_law_38 ⟨Nat.le_of_ble_eq_true rfl, Nat.le_of_ble_eq_true rfl⟩).run (fun r_9 hw_9 => ?_)
                rcases hw_9 with ⟨rfl, h_9⟩ | ⟨rfl, h_9⟩
                · skip
                  refine lv_if_eq (tgt := 48) hx hb dX12_law_41 (by decide) (fun c_10 => ?_) (fun c_10 => ?_)
                  · skip
                    exact absurd c_10 (by decide)
                  · skip
                    refine lv_iconst (v := 1) hx hb dX12_law_44 (by decide) ?_
                    refine lv_goto (tgt := 49) hx hb dX12_law_45 (by decide) ?_
                    refine lv_iconst (v := 2) hx hb dX12_law_49 (by decide) ?_
                    have hPc := hP.sub (ws' := [((a 0), .inr (12, zMo a (upd zI0 0 0)))]) [1] rfl
                    have hDc := hD.sub (ws' := [((a 0), .inr (12, zMo a (upd zI0 0 0)))]) [1] (by decide) rfl
                    have hKc := hK.sub (tys' := []) [] rfl
                    have hFc := va_free (wc := [((a 0), .inr (12, zMo a (upd zI0 0 0)))]) hD hS hA [1] rfl
                    refine va_calli (va_runV (As := [.int 1, .int 2]) (rest := []) ⟨hx, hb, hml, hown, ht⟩ (k_X12_no l _ D a (upd zI0 0 0) 1 2 (by decide)) (cwV 2 ht (zG_V zw_30 zw_31 zw_32 zw_2 zw_33) rfl rfl rfl (by decide +kernel) ⟨Nat.le_of_ble_eq_true rfl, Nat.le_of_ble_eq_true rfl⟩) (zM_V (va_recv hK hP (ci := 12) (q0 := 1) rfl rfl) hPc hKc hDc) rfl rfl hl.1 rfl (lv_room (Nat.le_of_ble_eq_true rfl)) dX12_law_50 ⟨Nat.le_of_ble_eq_true rfl, Nat.le_of_ble_eq_true rfl⟩) hS (fun q _ h => hFc q h) hFc (fun r_11 u_11 t H1 locs ht0 hvm hw_11 hB hz1 hk1 hS => ?_)
                    obtain ⟨rfl, rfl⟩ := hw_11.2 (by decide)
                    obtain ⟨hP1, hK1, hD1⟩ := hB
                    rw [ht0] at hP1
                    have hK1 := va_K.moved hvm.symm hK1
                    obtain ⟨hP, hD⟩ := va_join (wr := [((a 1), .inl (cI, 6792, .inl zI0))]) (w1 := [((a 0), .inr (12, zMo a (upd zI0 0 0)))]) hP hD [1] [0] rfl rfl (by decide) (by decide) hk1 hFc hP1 hD1
                    generalize H1 = H at hP hS ⊢
                    have hP : va_P D vwCl [((a 1), .inl (cI, 6792, .inl zI0)), ((a 0), .inr (12, zMo a (upd zI0 0 0)))] H := hP
                    have hD : va_D A [((a 1), .inl (cI, 6792, .inl zI0)), ((a 0), .inr (12, zMo a (upd zI0 0 0)))] := hD
                    refine lv_if_eq (tgt := 58) hx hb dX12_law_53 (by decide) (fun c_12 => ?_) (fun c_12 => ?_)
                    · skip
                      refine lv_aload_n hx hb dX12_law_58 rfl (lv_at hl 0 rfl) ?_
                      refine lv_aload_n hx hb dX12_law_59 rfl (lv_at hl 0 rfl) ?_
                      refine lv_iload_n hx hb dX12_law_60 rfl (lv_at hl 2 rfl) ?_
                      refine vp_callSi (va_runV (As := [.int p1]) (rest := [.ref (a 0)]) ⟨hx, hb, hml, hown, ht⟩ (k_X12_isFull l D a (upd zI0 0 0) cI p1 h_7) (cwV 1 ht (zG_V zw_69 zw_70 zw_71 zw_2 zw_72) rfl rfl rfl (by decide +kernel) ⟨Nat.le_of_ble_eq_true rfl, Nat.le_of_ble_eq_true rfl⟩) (zR_V (va_recv hK hP (ci := 12) (q0 := 1) rfl rfl) (hP.sub (ws' := [((a 0), .inr (12, zMo a (upd zI0 0 0))), ((a 1), .inl (cI, 6792, .inl zI0))]) [1, 0] rfl) hK) rfl rfl hl.1 rfl (lv_room (Nat.le_of_ble_eq_true rfl)) dX12_law_61 ⟨Nat.le_of_ble_eq_true rfl, Nat.le_of_ble_eq_true rfl⟩).run (fun r_13 hw_13 => ?_)
                      obtain rfl : r_13 = 0 := hw_13
                      refine lv_if_eq (tgt := 97) hx hb dX12_law_64 (by decide) (fun c_14 => ?_) (fun c_14 => ?_)
                      · skip
                        refine lv_iconst (v := 0) hx hb dX12_law_97 (by decide) ?_
                        refine lv_iconst (v := 3) hx hb dX12_law_98 (by decide) ?_
                        have hPc := hP.sub (ws' := [((a 0), .inr (12, zMo a (upd zI0 0 0)))]) [1] rfl
                        have hDc := hD.sub (ws' := [((a 0), .inr (12, zMo a (upd zI0 0 0)))]) [1] (by decide) rfl
                        have hKc := hK.sub (tys' := []) [] rfl
                        have hFc := va_free (wc := [((a 0), .inr (12, zMo a (upd zI0 0 0)))]) hD hS hA [1] rfl
                        refine va_calli (va_runV (As := [.int 0, .int 3]) (rest := []) ⟨hx, hb, hml, hown, ht⟩ (k_X12_no l _ D a (upd zI0 0 0) 0 3 (by decide)) (cwV 2 ht (zG_V zw_30 zw_31 zw_32 zw_2 zw_33) rfl rfl rfl (by decide +kernel) ⟨Nat.le_of_ble_eq_true rfl, Nat.le_of_ble_eq_true rfl⟩) (zM_V (va_recv hK hP (ci := 12) (q0 := 1) rfl rfl) hPc hKc hDc) rfl rfl hl.1 rfl (lv_room (Nat.le_of_ble_eq_true rfl)) dX12_law_99 ⟨Nat.le_of_ble_eq_true rfl, Nat.le_of_ble_eq_true rfl⟩) hS (fun q _ h => hFc q h) hFc (fun r_15 u_15 t H1 locs ht0 hvm hw_15 hB hz1 hk1 hS => ?_)
                        obtain ⟨rfl, rfl⟩ := hw_15.1 rfl
                        obtain ⟨hP1, hK1, hD1⟩ := hB
                        rw [ht0] at hP1
                        have hK1 := va_K.moved hvm.symm hK1
                        obtain ⟨hP, hD⟩ := va_join (wr := [((a 1), .inl (cI, 6792, .inl zI0))]) (w1 := [((a 0), .inr (12, zMo a (upd zI0 0 3)))]) hP hD [1] [0] rfl rfl (by decide) (by decide) hk1 hFc hP1 hD1
                        generalize H1 = H at hP hS ⊢
                        have hP : va_P D vwCl [((a 1), .inl (cI, 6792, .inl zI0)), ((a 0), .inr (12, zMo a (upd zI0 0 3)))] H := hP
                        have hD : va_D A [((a 1), .inl (cI, 6792, .inl zI0)), ((a 0), .inr (12, zMo a (upd zI0 0 3)))] := hD
                        refine lv_if_eq (tgt := 107) hx hb dX12_law_102 (by decide) (fun c_16 => ?_) (fun c_16 => ?_)
                        · skip
                          exact absurd c_16 (by decide)
                        · skip
                          refine lv_iconst (v := 0) hx hb dX12_law_105 (by decide) ?_
                          have hP9 := hP.sub (ws' := [((a 0), .inr (12, zMo a (upd zI0 0 3)))]) [1] rfl
                          have hD9 := hD.sub (ws' := [((a 0), .inr (12, zMo a (upd zI0 0 3)))]) [1] (by decide) rfl
                          have hK9 := hK.sub (tys' := []) [] rfl
                          refine W.widen (k := 0) (n := 0) (Nat.le_of_ble_eq_true rfl) (Nat.le_of_ble_eq_true rfl) ?_
                          exact W.iret (v := 0) hx hb hr (fun t ht0 hW => ⟨⟨0, upd zI0 0 3, rfl, (show zS_law p0 p1 p2 p3 3 0 from (.inr (.inr ⟨rfl, by omega⟩))), (zE_of hP9 hK9 hD9 ht0 hW)⟩, hS.F ht0⟩) hS.2.2 dX12_law_106
                      · skip
                        exact absurd c_14 (by decide)
                    · skip
                      exact absurd c_12 (by decide)
                · skip
                  refine lv_if_eq (tgt := 48) hx hb dX12_law_41 (by decide) (fun c_17 => ?_) (fun c_17 => ?_)
                  · skip
                    refine lv_iconst (v := 0) hx hb dX12_law_48 (by decide) ?_
                    refine lv_iconst (v := 2) hx hb dX12_law_49 (by decide) ?_
                    have hPc := hP.sub (ws' := [((a 0), .inr (12, zMo a (upd zI0 0 0)))]) [1] rfl
                    have hDc := hD.sub (ws' := [((a 0), .inr (12, zMo a (upd zI0 0 0)))]) [1] (by decide) rfl
                    have hKc := hK.sub (tys' := []) [] rfl
                    have hFc := va_free (wc := [((a 0), .inr (12, zMo a (upd zI0 0 0)))]) hD hS hA [1] rfl
                    refine va_calli (va_runV (As := [.int 0, .int 2]) (rest := []) ⟨hx, hb, hml, hown, ht⟩ (k_X12_no l _ D a (upd zI0 0 0) 0 2 (by decide)) (cwV 2 ht (zG_V zw_30 zw_31 zw_32 zw_2 zw_33) rfl rfl rfl (by decide +kernel) ⟨Nat.le_of_ble_eq_true rfl, Nat.le_of_ble_eq_true rfl⟩) (zM_V (va_recv hK hP (ci := 12) (q0 := 1) rfl rfl) hPc hKc hDc) rfl rfl hl.1 rfl (lv_room (Nat.le_of_ble_eq_true rfl)) dX12_law_50 ⟨Nat.le_of_ble_eq_true rfl, Nat.le_of_ble_eq_true rfl⟩) hS (fun q _ h => hFc q h) hFc (fun r_18 u_18 t H1 locs ht0 hvm hw_18 hB hz1 hk1 hS => ?_)
                    obtain ⟨rfl, rfl⟩ := hw_18.1 rfl
                    obtain ⟨hP1, hK1, hD1⟩ := hB
                    rw [ht0] at hP1
                    have hK1 := va_K.moved hvm.symm hK1
                    obtain ⟨hP, hD⟩ := va_join (wr := [((a 1), .inl (cI, 6792, .inl zI0))]) (w1 := [((a 0), .inr (12, zMo a (upd zI0 0 2)))]) hP hD [1] [0] rfl rfl (by decide) (by decide) hk1 hFc hP1 hD1
                    generalize H1 = H at hP hS ⊢
                    have hP : va_P D vwCl [((a 1), .inl (cI, 6792, .inl zI0)), ((a 0), .inr (12, zMo a (upd zI0 0 2)))] H := hP
                    have hD : va_D A [((a 1), .inl (cI, 6792, .inl zI0)), ((a 0), .inr (12, zMo a (upd zI0 0 2)))] := hD
                    refine lv_if_eq (tgt := 58) hx hb dX12_law_53 (by decide) (fun c_19 => ?_) (fun c_19 => ?_)
                    · skip
                      exact absurd c_19 (by decide)
                    · skip
                      refine lv_iconst (v := 0) hx hb dX12_law_56 (by decide) ?_
                      have hP9 := hP.sub (ws' := [((a 0), .inr (12, zMo a (upd zI0 0 2)))]) [1] rfl
                      have hD9 := hD.sub (ws' := [((a 0), .inr (12, zMo a (upd zI0 0 2)))]) [1] (by decide) rfl
                      have hK9 := hK.sub (tys' := []) [] rfl
                      refine W.widen (k := 0) (n := 0) (Nat.le_of_ble_eq_true rfl) (Nat.le_of_ble_eq_true rfl) ?_
                      exact W.iret (v := 0) hx hb hr (fun t ht0 hW => ⟨⟨0, upd zI0 0 2, rfl, (show zS_law p0 p1 p2 p3 2 0 from (.inr (.inl ⟨rfl, by omega⟩))), (zE_of hP9 hK9 hD9 ht0 hW)⟩, hS.F ht0⟩) hS.2.2 dX12_law_57
                  · skip
                    exact absurd c_17 (by decide)
            · skip
              refine lv_if_eq (tgt := 48) hx hb dX12_law_33 (by decide) (fun c_20 => ?_) (fun c_20 => ?_)
              · skip
                refine lv_iconst (v := 0) hx hb dX12_law_48 (by decide) ?_
                refine lv_iconst (v := 2) hx hb dX12_law_49 (by decide) ?_
                have hPc := hP.sub (ws' := [((a 0), .inr (12, zMo a (upd zI0 0 0)))]) [1] rfl
                have hDc := hD.sub (ws' := [((a 0), .inr (12, zMo a (upd zI0 0 0)))]) [1] (by decide) rfl
                have hKc := hK.sub (tys' := []) [] rfl
                have hFc := va_free (wc := [((a 0), .inr (12, zMo a (upd zI0 0 0)))]) hD hS hA [1] rfl
                refine va_calli (va_runV (As := [.int 0, .int 2]) (rest := []) ⟨hx, hb, hml, hown, ht⟩ (k_X12_no l _ D a (upd zI0 0 0) 0 2 (by decide)) (cwV 2 ht (zG_V zw_30 zw_31 zw_32 zw_2 zw_33) rfl rfl rfl (by decide +kernel) ⟨Nat.le_of_ble_eq_true rfl, Nat.le_of_ble_eq_true rfl⟩) (zM_V (va_recv hK hP (ci := 12) (q0 := 1) rfl rfl) hPc hKc hDc) rfl rfl hl.1 rfl (lv_room (Nat.le_of_ble_eq_true rfl)) dX12_law_50 ⟨Nat.le_of_ble_eq_true rfl, Nat.le_of_ble_eq_true rfl⟩) hS (fun q _ h => hFc q h) hFc (fun r_21 u_21 t H1 locs ht0 hvm hw_21 hB hz1 hk1 hS => ?_)
                obtain ⟨rfl, rfl⟩ := hw_21.1 rfl
                obtain ⟨hP1, hK1, hD1⟩ := hB
                rw [ht0] at hP1
                have hK1 := va_K.moved hvm.symm hK1
                obtain ⟨hP, hD⟩ := va_join (wr := [((a 1), .inl (cI, 6792, .inl zI0))]) (w1 := [((a 0), .inr (12, zMo a (upd zI0 0 2)))]) hP hD [1] [0] rfl rfl (by decide) (by decide) hk1 hFc hP1 hD1
                generalize H1 = H at hP hS ⊢
                have hP : va_P D vwCl [((a 1), .inl (cI, 6792, .inl zI0)), ((a 0), .inr (12, zMo a (upd zI0 0 2)))] H := hP
                have hD : va_D A [((a 1), .inl (cI, 6792, .inl zI0)), ((a 0), .inr (12, zMo a (upd zI0 0 2)))] := hD
                refine lv_if_eq (tgt := 58) hx hb dX12_law_53 (by decide) (fun c_22 => ?_) (fun c_22 => ?_)
                · skip
                  exact absurd c_22 (by decide)
                · skip
                  refine lv_iconst (v := 0) hx hb dX12_law_56 (by decide) ?_
                  have hP9 := hP.sub (ws' := [((a 0), .inr (12, zMo a (upd zI0 0 2)))]) [1] rfl
                  have hD9 := hD.sub (ws' := [((a 0), .inr (12, zMo a (upd zI0 0 2)))]) [1] (by decide) rfl
                  have hK9 := hK.sub (tys' := []) [] rfl
                  refine W.widen (k := 0) (n := 0) (Nat.le_of_ble_eq_true rfl) (Nat.le_of_ble_eq_true rfl) ?_
                  exact W.iret (v := 0) hx hb hr (fun t ht0 hW => ⟨⟨0, upd zI0 0 2, rfl, (show zS_law p0 p1 p2 p3 2 0 from (.inr (.inl ⟨rfl, by omega⟩))), (zE_of hP9 hK9 hD9 ht0 hW)⟩, hS.F ht0⟩) hS.2.2 dX12_law_57
              · skip
                exact absurd c_20 (by decide)
      · skip
        simp only [Int32.reduceToInt] at h_3
        refine lv_if_eq (tgt := 21) hx hb dX12_law_14 (by decide) (fun c_23 => ?_) (fun c_23 => ?_)
        · skip
          refine lv_iconst (v := 0) hx hb dX12_law_21 (by decide) ?_
          have hPc := hP.sub (ws' := [((a 0), .inr (12, zMo a zI0))]) [0] rfl
          have hDc := hD.sub (ws' := [((a 0), .inr (12, zMo a zI0))]) [0] (by decide) rfl
          have hKc := hK.sub (tys' := []) [] rfl
          have hFc := va_free (wc := [((a 0), .inr (12, zMo a zI0))]) hD hS hA [0] rfl
          refine va_calli (va_runV (As := [.int 0]) (rest := []) ⟨hx, hb, hml, hown, ht⟩ (k_X12_lacks l _ D a zI0 0 (by decide)) (cwV 1 ht (zG_V zw_62 zw_63 zw_64 zw_2 zw_65) rfl rfl rfl (by decide +kernel) ⟨Nat.le_of_ble_eq_true rfl, Nat.le_of_ble_eq_true rfl⟩) (zM_V (va_recv hK hP (ci := 12) (q0 := 0) rfl rfl) hPc hKc hDc) rfl rfl hl.1 rfl (lv_room (Nat.le_of_ble_eq_true rfl)) dX12_law_22 ⟨Nat.le_of_ble_eq_true rfl, Nat.le_of_ble_eq_true rfl⟩) hS (fun q _ h => hFc q h) hFc (fun r_24 u_24 t H1 locs ht0 hvm hw_24 hB hz1 hk1 hS => ?_)
          obtain ⟨rfl, rfl⟩ := hw_24.1 rfl
          obtain ⟨hP1, hK1, hD1⟩ := hB
          rw [ht0] at hP1
          have hK1 := va_K.moved hvm.symm hK1
          obtain ⟨hP, hD⟩ := va_join (wr := [((a 1), .inl (cI, 6792, .inl zI0))]) (w1 := [((a 0), .inr (12, zMo a (upd zI0 0 1)))]) hP hD [0] [1] rfl rfl (by decide) (by decide) hk1 hFc hP1 hD1
          generalize H1 = H at hP hS ⊢
          have hP : va_P D vwCl [((a 1), .inl (cI, 6792, .inl zI0)), ((a 0), .inr (12, zMo a (upd zI0 0 1)))] H := hP
          have hD : va_D A [((a 1), .inl (cI, 6792, .inl zI0)), ((a 0), .inr (12, zMo a (upd zI0 0 1)))] := hD
          refine lv_if_ne (tgt := 56) hx hb dX12_law_25 (by decide) (fun c_25 => ?_) (fun c_25 => ?_)
          · skip
            refine lv_iconst (v := 0) hx hb dX12_law_56 (by decide) ?_
            have hP9 := hP.sub (ws' := [((a 0), .inr (12, zMo a (upd zI0 0 1)))]) [1] rfl
            have hD9 := hD.sub (ws' := [((a 0), .inr (12, zMo a (upd zI0 0 1)))]) [1] (by decide) rfl
            have hK9 := hK.sub (tys' := []) [] rfl
            refine W.widen (k := 0) (n := 0) (Nat.le_of_ble_eq_true rfl) (Nat.le_of_ble_eq_true rfl) ?_
            exact W.iret (v := 0) hx hb hr (fun t ht0 hW => ⟨⟨0, upd zI0 0 1, rfl, (show zS_law p0 p1 p2 p3 1 0 from (.inl ⟨rfl, by omega⟩)), (zE_of hP9 hK9 hD9 ht0 hW)⟩, hS.F ht0⟩) hS.2.2 dX12_law_57
          · skip
            exact absurd c_25 (by decide)
        · skip
          exact absurd c_23 (by decide)
  · skip
    refine lv_if_eq (tgt := 21) hx hb dX12_law_5 (by decide) (fun c_26 => ?_) (fun c_26 => ?_)
    · skip
      refine lv_iconst (v := 0) hx hb dX12_law_21 (by decide) ?_
      have hPc := hP.sub (ws' := [((a 0), .inr (12, zMo a zI0))]) [0] rfl
      have hDc := hD.sub (ws' := [((a 0), .inr (12, zMo a zI0))]) [0] (by decide) rfl
      have hKc := hK.sub (tys' := []) [] rfl
      have hFc := va_free (wc := [((a 0), .inr (12, zMo a zI0))]) hD hS hA [0] rfl
      refine va_calli (va_runV (As := [.int 0]) (rest := []) ⟨hx, hb, hml, hown, ht⟩ (k_X12_lacks l _ D a zI0 0 (by decide)) (cwV 1 ht (zG_V zw_62 zw_63 zw_64 zw_2 zw_65) rfl rfl rfl (by decide +kernel) ⟨Nat.le_of_ble_eq_true rfl, Nat.le_of_ble_eq_true rfl⟩) (zM_V (va_recv hK hP (ci := 12) (q0 := 0) rfl rfl) hPc hKc hDc) rfl rfl hl.1 rfl (lv_room (Nat.le_of_ble_eq_true rfl)) dX12_law_22 ⟨Nat.le_of_ble_eq_true rfl, Nat.le_of_ble_eq_true rfl⟩) hS (fun q _ h => hFc q h) hFc (fun r_27 u_27 t H1 locs ht0 hvm hw_27 hB hz1 hk1 hS => ?_)
      obtain ⟨rfl, rfl⟩ := hw_27.1 rfl
      obtain ⟨hP1, hK1, hD1⟩ := hB
      rw [ht0] at hP1
      have hK1 := va_K.moved hvm.symm hK1
      obtain ⟨hP, hD⟩ := va_join (wr := [((a 1), .inl (cI, 6792, .inl zI0))]) (w1 := [((a 0), .inr (12, zMo a (upd zI0 0 1)))]) hP hD [0] [1] rfl rfl (by decide) (by decide) hk1 hFc hP1 hD1
      generalize H1 = H at hP hS ⊢
      have hP : va_P D vwCl [((a 1), .inl (cI, 6792, .inl zI0)), ((a 0), .inr (12, zMo a (upd zI0 0 1)))] H := hP
      have hD : va_D A [((a 1), .inl (cI, 6792, .inl zI0)), ((a 0), .inr (12, zMo a (upd zI0 0 1)))] := hD
      refine lv_if_ne (tgt := 56) hx hb dX12_law_25 (by decide) (fun c_28 => ?_) (fun c_28 => ?_)
      · skip
        refine lv_iconst (v := 0) hx hb dX12_law_56 (by decide) ?_
        have hP9 := hP.sub (ws' := [((a 0), .inr (12, zMo a (upd zI0 0 1)))]) [1] rfl
        have hD9 := hD.sub (ws' := [((a 0), .inr (12, zMo a (upd zI0 0 1)))]) [1] (by decide) rfl
        have hK9 := hK.sub (tys' := []) [] rfl
        refine W.widen (k := 0) (n := 0) (Nat.le_of_ble_eq_true rfl) (Nat.le_of_ble_eq_true rfl) ?_
        exact W.iret (v := 0) hx hb hr (fun t ht0 hW => ⟨⟨0, upd zI0 0 1, rfl, (show zS_law p0 p1 p2 p3 1 0 from (.inl ⟨rfl, by omega⟩)), (zE_of hP9 hK9 hD9 ht0 hW)⟩, hS.F ht0⟩) hS.2.2 dX12_law_57
      · skip
        exact absurd c_28 (by decide)
    · skip
      exact absurd c_26 (by decide)
set_option maxHeartbeats 4000000 in
set_option maxRecDepth 100000 in
theorem k_X12_condition (l : Launch) (sz : Nat) (D : va_G) (a : Nat → Nat) (cI : ClassId) (p0 p1 p2 : Int32) : Met l yX12_condition (.code yX12_condition cX12_condition 8 (some .boolean) :: zT) ({ frames := 2, cells := 0, slots := 0, locals := 43 }) (va_Pc [.ref (a 0), .int p0, .int p1, .int p2] (zM D [((a 0), .inr (12, zMo a zI0)), ((a 1), .inl (cI, 6792, .inl zI0))] [(cI, .int)] sz)) (va_Qi (fun (r : Int32) (u : Nat → Int32) => zS_condition p0 p1 p2 (u 0) r) (fun u t => zE D [(a 0, .inr (12, zMo a u))] [] (va_A [((a 0), .inr (12, zMo a zI0)), ((a 1), .inl (cI, 6792, .inl zI0))] sz) t) (va_A [((a 0), .inr (12, zMo a zI0)), ((a 1), .inl (cI, 6792, .inl zI0))] sz)) 0 0 (va_A [((a 0), .inr (12, zMo a zI0)), ((a 1), .inl (cI, 6792, .inl zI0))] sz) := by
  refine Met.ofW (cc := cX12_condition) (maxL := 8) (ret := (some .boolean)) (by decide) rfl ?_
  intro p e s m args below meth c s₁ B hml hv
  obtain ⟨rfl, hsz, hP, hK, hD0⟩ := hv
  have hx := B.exec
  have hb := B.bytes
  have hr := B.returns
  have hts := atoms_spec (ws := (.code yX12_condition cX12_condition 8 (some .boolean) :: zT)) B.pre
  have ht : ∀ w ∈ zT, w.before _ s = true := fun w h => hts w (List.mem_cons_of_mem _ h)
  have hown : s.vm.findClass RX12 = some m.cls := findClass_of_methodNamed B.named
  have hlocks := B.notSynchronized
  subst hsz
  have hD := hD0.self (sz := s.heap.size)
  generalize hAe : va_A [((a 0), .inr (12, zMo a zI0)), ((a 1), .inl (cI, 6792, .inl zI0))] s.heap.size = A at hD ⊢
  have hA : ∀ q : Nat, s.heap.size ≤ q → A q := fun q h => by rw [← hAe]; exact Or.inr h
  have hS : va_S A s.heap s.heap [] := va_S.rf
  have hP : va_P D vwCl [((a 0), .inr (12, zMo a zI0)), ((a 1), .inl (cI, 6792, .inl zI0))] s.heap := hP
  have hl := lv_entry ([.ref (a 0), .int p0, .int p1, .int p2]) (n := 8) (Nat.le_of_ble_eq_true rfl)
  rw [lg_entry_eq]
  generalize (lg_sl ([.ref (a 0), .int p0, .int p1, .int p2]) ++ List.replicate (8 - (lg_sl ([.ref (a 0), .int p0, .int p1, .int p2])).length) Slot.unset).toArray = ls at hl ⊢
  have hl : lv_has ls 8 [(0, .ref (a 0)), (1, .int p0), (2, .int p1), (3, .int p2)] := hl
  skip
  refine lv_aload_n hx hb dX12_condition_0 rfl (lv_at hl 0 rfl) ?_
  refine lv_iload_n hx hb dX12_condition_1 rfl (lv_at hl 1 rfl) ?_
  refine vp_callSi (va_runV (As := [.int p0]) (rest := []) ⟨hx, hb, hml, hown, ht⟩ (k_X12_atLaw l D a zI0 cI p0) (cwV 1 ht (zG_V zw_73 zw_74 zw_75 zw_2 zw_76) rfl rfl rfl (by decide +kernel) ⟨Nat.le_of_ble_eq_true rfl, Nat.le_of_ble_eq_true rfl⟩) (zR_V (va_recv hK hP (ci := 12) (q0 := 0) rfl rfl) hP hK) rfl rfl hl.1 rfl (lv_room (Nat.le_of_ble_eq_true rfl)) dX12_condition_2 ⟨Nat.le_of_ble_eq_true rfl, Nat.le_of_ble_eq_true rfl⟩).run (fun r_1 hw_1 => ?_)
  obtain rfl : r_1 = (-1) := hw_1
  refine lv_istore (lv' := [(4, .int (-1)), (0, .ref (a 0)), (1, .int p0), (2, .int p1), (3, .int p2)]) hx hb dX12_condition_5 hl (by decide) rfl (fun ls hl => ?_)
  refine lv_aload_n hx hb dX12_condition_7 rfl (lv_at hl 1 rfl) ?_
  refine lv_iload hx hb dX12_condition_8 (lv_at hl 0 rfl) ?_
  refine lv_iconst (v := (-1)) hx hb dX12_condition_10 (by decide) ?_
  refine lv_icmp_eq (tgt := 18) hx hb dX12_condition_11 (by decide) (fun c_2 => ?_) (fun c_2 => ?_)
  · skip
    refine lv_iconst (v := 0) hx hb dX12_condition_18 (by decide) ?_
    have hPc := hP.sub (ws' := [((a 0), .inr (12, zMo a zI0))]) [0] rfl
    have hDc := hD.sub (ws' := [((a 0), .inr (12, zMo a zI0))]) [0] (by decide) rfl
    have hKc := hK.sub (tys' := []) [] rfl
    have hFc := va_free (wc := [((a 0), .inr (12, zMo a zI0))]) hD hS hA [0] rfl
    refine va_calli (va_runV (As := [.int 0]) (rest := []) ⟨hx, hb, hml, hown, ht⟩ (k_X12_lacks l _ D a zI0 0 (by decide)) (cwV 1 ht (zG_V zw_62 zw_63 zw_64 zw_2 zw_65) rfl rfl rfl (by decide +kernel) ⟨Nat.le_of_ble_eq_true rfl, Nat.le_of_ble_eq_true rfl⟩) (zM_V (va_recv hK hP (ci := 12) (q0 := 0) rfl rfl) hPc hKc hDc) rfl rfl hl.1 rfl (lv_room (Nat.le_of_ble_eq_true rfl)) dX12_condition_19 ⟨Nat.le_of_ble_eq_true rfl, Nat.le_of_ble_eq_true rfl⟩) hS (fun q _ h => hFc q h) hFc (fun r_3 u_3 t H1 locs ht0 hvm hw_3 hB hz1 hk1 hS => ?_)
    obtain ⟨rfl, rfl⟩ := hw_3.1 rfl
    obtain ⟨hP1, hK1, hD1⟩ := hB
    rw [ht0] at hP1
    have hK1 := va_K.moved hvm.symm hK1
    obtain ⟨hP, hD⟩ := va_join (wr := [((a 1), .inl (cI, 6792, .inl zI0))]) (w1 := [((a 0), .inr (12, zMo a (upd zI0 0 1)))]) hP hD [0] [1] rfl rfl (by decide) (by decide) hk1 hFc hP1 hD1
    generalize H1 = H at hP hS ⊢
    have hP : va_P D vwCl [((a 1), .inl (cI, 6792, .inl zI0)), ((a 0), .inr (12, zMo a (upd zI0 0 1)))] H := hP
    have hD : va_D A [((a 1), .inl (cI, 6792, .inl zI0)), ((a 0), .inr (12, zMo a (upd zI0 0 1)))] := hD
    refine lv_if_ne (tgt := 52) hx hb dX12_condition_22 (by decide) (fun c_4 => ?_) (fun c_4 => ?_)
    · skip
      refine lv_iconst (v := 0) hx hb dX12_condition_52 (by decide) ?_
      have hP9 := hP.sub (ws' := [((a 0), .inr (12, zMo a (upd zI0 0 1)))]) [1] rfl
      have hD9 := hD.sub (ws' := [((a 0), .inr (12, zMo a (upd zI0 0 1)))]) [1] (by decide) rfl
      have hK9 := hK.sub (tys' := []) [] rfl
      refine W.widen (k := 0) (n := 0) (Nat.le_of_ble_eq_true rfl) (Nat.le_of_ble_eq_true rfl) ?_
      exact W.zret (v := 0) hx hb hr rfl (fun t ht0 hW => ⟨⟨0, upd zI0 0 1, rfl, (show zS_condition p0 p1 p2 1 0 from ⟨rfl, by trivial⟩), (zE_of hP9 hK9 hD9 ht0 hW)⟩, hS.F ht0⟩) hS.2.2 dX12_condition_53
    · skip
      exact absurd c_4 (by decide)
  · skip
    exact absurd c_2 (by decide)
set_option maxHeartbeats 4000000 in
set_option maxRecDepth 100000 in
theorem k_X12_equivalence (l : Launch) (sz : Nat) (D : va_G) (a : Nat → Nat) (cI : ClassId) (p0 p1 p2 p3 p4 : Int32) : Met l yX12_equivalence (.code yX12_equivalence cX12_equivalence 7 (some .int) :: zT) ({ frames := 2, cells := 0, slots := 0, locals := 43 }) (va_Pc [.ref (a 0), .int p0, .int p1, .int p2, .int p3, .int p4] (zM D [((a 0), .inr (12, zMo a zI0)), ((a 1), .inl (cI, 6792, .inl zI0))] [(cI, .int)] sz)) (va_Qi (fun (r : Int32) (u : Nat → Int32) => zS_equivalence p0 p1 p2 p3 p4 (u 0) r) (fun u t => zE D [(a 0, .inr (12, zMo a u))] [] (va_A [((a 0), .inr (12, zMo a zI0)), ((a 1), .inl (cI, 6792, .inl zI0))] sz) t) (va_A [((a 0), .inr (12, zMo a zI0)), ((a 1), .inl (cI, 6792, .inl zI0))] sz)) 0 0 (va_A [((a 0), .inr (12, zMo a zI0)), ((a 1), .inl (cI, 6792, .inl zI0))] sz) := by
  refine Met.ofW (cc := cX12_equivalence) (maxL := 7) (ret := (some .int)) (by decide) rfl ?_
  intro p e s m args below meth c s₁ B hml hv
  obtain ⟨rfl, hsz, hP, hK, hD0⟩ := hv
  have hx := B.exec
  have hb := B.bytes
  have hr := B.returns
  have hts := atoms_spec (ws := (.code yX12_equivalence cX12_equivalence 7 (some .int) :: zT)) B.pre
  have ht : ∀ w ∈ zT, w.before _ s = true := fun w h => hts w (List.mem_cons_of_mem _ h)
  have hown : s.vm.findClass RX12 = some m.cls := findClass_of_methodNamed B.named
  have hlocks := B.notSynchronized
  subst hsz
  have hD := hD0.self (sz := s.heap.size)
  generalize hAe : va_A [((a 0), .inr (12, zMo a zI0)), ((a 1), .inl (cI, 6792, .inl zI0))] s.heap.size = A at hD ⊢
  have hA : ∀ q : Nat, s.heap.size ≤ q → A q := fun q h => by rw [← hAe]; exact Or.inr h
  have hS : va_S A s.heap s.heap [] := va_S.rf
  have hP : va_P D vwCl [((a 0), .inr (12, zMo a zI0)), ((a 1), .inl (cI, 6792, .inl zI0))] s.heap := hP
  have hl := lv_entry ([.ref (a 0), .int p0, .int p1, .int p2, .int p3, .int p4]) (n := 7) (Nat.le_of_ble_eq_true rfl)
  rw [lg_entry_eq]
  generalize (lg_sl ([.ref (a 0), .int p0, .int p1, .int p2, .int p3, .int p4]) ++ List.replicate (7 - (lg_sl ([.ref (a 0), .int p0, .int p1, .int p2, .int p3, .int p4])).length) Slot.unset).toArray = ls at hl ⊢
  have hl : lv_has ls 7 [(0, .ref (a 0)), (1, .int p0), (2, .int p1), (3, .int p2), (4, .int p3), (5, .int p4)] := hl
  skip
  refine lv_aload_n hx hb dX12_equivalence_0 rfl (lv_at hl 0 rfl) ?_
  refine lv_iload_n hx hb dX12_equivalence_1 rfl (lv_at hl 1 rfl) ?_
  refine vp_callSi (va_runS (As := [.int p0]) (rest := [.ref (a 0)]) ⟨hx, hb, hml, hown, ht⟩ (k_X12_isName l p0) (va_cwS 1 ht (zG_S zw_66 zw_67 zw_2 zw_68) rfl rfl rfl (by decide +kernel) ⟨Nat.le_of_ble_eq_true rfl, Nat.le_of_ble_eq_true rfl⟩) zN_S rfl rfl hl.1 rfl (lv_room (Nat.le_of_ble_eq_true rfl)) dX12_equivalence_2 ⟨Nat.le_of_ble_eq_true rfl, Nat.le_of_ble_eq_true rfl⟩).run (fun r_1 hw_1 => ?_)
  rcases hw_1 with ⟨rfl, h_1⟩ | ⟨rfl, h_1⟩
  · skip
    have hPc := hP.sub (ws' := [((a 0), .inr (12, zMo a zI0))]) [0] rfl
    have hDc := hD.sub (ws' := [((a 0), .inr (12, zMo a zI0))]) [0] (by decide) rfl
    have hKc := hK.sub (tys' := []) [] rfl
    have hFc := va_free (wc := [((a 0), .inr (12, zMo a zI0))]) hD hS hA [0] rfl
    refine va_calli (va_runV (As := [.int 1]) (rest := []) ⟨hx, hb, hml, hown, ht⟩ (k_X12_lacks l _ D a zI0 1 (by decide)) (cwV 1 ht (zG_V zw_62 zw_63 zw_64 zw_2 zw_65) rfl rfl rfl (by decide +kernel) ⟨Nat.le_of_ble_eq_true rfl, Nat.le_of_ble_eq_true rfl⟩) (zM_V (va_recv hK hP (ci := 12) (q0 := 0) rfl rfl) hPc hKc hDc) rfl rfl hl.1 rfl (lv_room (Nat.le_of_ble_eq_true rfl)) dX12_equivalence_5 ⟨Nat.le_of_ble_eq_true rfl, Nat.le_of_ble_eq_true rfl⟩) hS (fun q _ h => hFc q h) hFc (fun r_2 u_2 t H1 locs ht0 hvm hw_2 hB hz1 hk1 hS => ?_)
    obtain ⟨rfl, rfl⟩ := hw_2.2 (by decide)
    obtain ⟨hP1, hK1, hD1⟩ := hB
    rw [ht0] at hP1
    have hK1 := va_K.moved hvm.symm hK1
    obtain ⟨hP, hD⟩ := va_join (wr := [((a 1), .inl (cI, 6792, .inl zI0))]) (w1 := [((a 0), .inr (12, zMo a (upd zI0 0 0)))]) hP hD [0] [1] rfl rfl (by decide) (by decide) hk1 hFc hP1 hD1
    generalize H1 = H at hP hS ⊢
    have hP : va_P D vwCl [((a 1), .inl (cI, 6792, .inl zI0)), ((a 0), .inr (12, zMo a (upd zI0 0 0)))] H := hP
    have hD : va_D A [((a 1), .inl (cI, 6792, .inl zI0)), ((a 0), .inr (12, zMo a (upd zI0 0 0)))] := hD
    refine lv_if_ne (tgt := 54) hx hb dX12_equivalence_8 (by decide) (fun c_3 => ?_) (fun c_3 => ?_)
    · skip
      exact absurd c_3 (by decide)
    · skip
      refine lv_aload_n hx hb dX12_equivalence_11 rfl (lv_at hl 0 rfl) ?_
      refine lv_iload_n hx hb dX12_equivalence_12 rfl (lv_at hl 2 rfl) ?_
      refine vp_callSi (va_runS (As := [.int p1]) (rest := [.ref (a 0)]) ⟨hx, hb, hml, hown, ht⟩ (k_X12_isRegister l p1) (va_cwS 1 ht (zG_S zw_59 zw_60 zw_2 zw_61) rfl rfl rfl (by decide +kernel) ⟨Nat.le_of_ble_eq_true rfl, Nat.le_of_ble_eq_true rfl⟩) zN_S rfl rfl hl.1 rfl (lv_room (Nat.le_of_ble_eq_true rfl)) dX12_equivalence_13 ⟨Nat.le_of_ble_eq_true rfl, Nat.le_of_ble_eq_true rfl⟩).run (fun r_4 hw_4 => ?_)
      rcases hw_4 with ⟨rfl, h_4⟩ | ⟨rfl, h_4⟩
      · skip
        refine lv_if_eq (tgt := 46) hx hb dX12_equivalence_16 (by decide) (fun c_5 => ?_) (fun c_5 => ?_)
        · skip
          exact absurd c_5 (by decide)
        · skip
          refine lv_iload_n hx hb dX12_equivalence_19 rfl (lv_at hl 3 rfl) ?_
          refine vp_callSi (va_runS (As := [.int p2]) (rest := [.ref (a 0)]) ⟨hx, hb, hml, hown, ht⟩ (k_X12_isRegister l p2) (va_cwS 1 ht (zG_S zw_59 zw_60 zw_2 zw_61) rfl rfl rfl (by decide +kernel) ⟨Nat.le_of_ble_eq_true rfl, Nat.le_of_ble_eq_true rfl⟩) zN_S rfl rfl hl.1 rfl (lv_room (Nat.le_of_ble_eq_true rfl)) dX12_equivalence_20 ⟨Nat.le_of_ble_eq_true rfl, Nat.le_of_ble_eq_true rfl⟩).run (fun r_6 hw_6 => ?_)
          rcases hw_6 with ⟨rfl, h_6⟩ | ⟨rfl, h_6⟩
          · skip
            refine lv_if_eq (tgt := 46) hx hb dX12_equivalence_23 (by decide) (fun c_7 => ?_) (fun c_7 => ?_)
            · skip
              exact absurd c_7 (by decide)
            · skip
              refine lv_iload hx hb dX12_equivalence_26 (lv_at hl 4 rfl) ?_
              refine vp_callSi (va_runS (As := [.int p3]) (rest := [.ref (a 0)]) ⟨hx, hb, hml, hown, ht⟩ (k_X12_isRegister l p3) (va_cwS 1 ht (zG_S zw_59 zw_60 zw_2 zw_61) rfl rfl rfl (by decide +kernel) ⟨Nat.le_of_ble_eq_true rfl, Nat.le_of_ble_eq_true rfl⟩) zN_S rfl rfl hl.1 rfl (lv_room (Nat.le_of_ble_eq_true rfl)) dX12_equivalence_28 ⟨Nat.le_of_ble_eq_true rfl, Nat.le_of_ble_eq_true rfl⟩).run (fun r_8 hw_8 => ?_)
              rcases hw_8 with ⟨rfl, h_8⟩ | ⟨rfl, h_8⟩
              · skip
                refine lv_if_eq (tgt := 46) hx hb dX12_equivalence_31 (by decide) (fun c_9 => ?_) (fun c_9 => ?_)
                · skip
                  exact absurd c_9 (by decide)
                · skip
                  refine lv_iload hx hb dX12_equivalence_34 (lv_at hl 5 rfl) ?_
                  refine vp_callSi (va_runS (As := [.int p4]) (rest := [.ref (a 0)]) ⟨hx, hb, hml, hown, ht⟩ (k_X12_isRegister l p4) (va_cwS 1 ht (zG_S zw_59 zw_60 zw_2 zw_61) rfl rfl rfl (by decide +kernel) ⟨Nat.le_of_ble_eq_true rfl, Nat.le_of_ble_eq_true rfl⟩) zN_S rfl rfl hl.1 rfl (lv_room (Nat.le_of_ble_eq_true rfl)) dX12_equivalence_36 ⟨Nat.le_of_ble_eq_true rfl, Nat.le_of_ble_eq_true rfl⟩).run (fun r_10 hw_10 => ?_)
                  rcases hw_10 with ⟨rfl, h_10⟩ | ⟨rfl, h_10⟩
                  · skip
                    refine lv_if_eq (tgt := 46) hx hb dX12_equivalence_39 (by decide) (fun c_11 => ?_) (fun c_11 => ?_)
                    · skip
                      exact absurd c_11 (by decide)
                    · skip
                      refine lv_iconst (v := 1) hx hb dX12_equivalence_42 (by decide) ?_
                      refine lv_goto (tgt := 47) hx hb dX12_equivalence_43 (by decide) ?_
                      refine lv_iconst (v := 2) hx hb dX12_equivalence_47 (by decide) ?_
                      have hPc := hP.sub (ws' := [((a 0), .inr (12, zMo a (upd zI0 0 0)))]) [1] rfl
                      have hDc := hD.sub (ws' := [((a 0), .inr (12, zMo a (upd zI0 0 0)))]) [1] (by decide) rfl
                      have hKc := hK.sub (tys' := []) [] rfl
                      have hFc := va_free (wc := [((a 0), .inr (12, zMo a (upd zI0 0 0)))]) hD hS hA [1] rfl
                      refine va_calli (va_runV (As := [.int 1, .int 2]) (rest := []) ⟨hx, hb, hml, hown, ht⟩ (k_X12_no l _ D a (upd zI0 0 0) 1 2 (by decide)) (cwV 2 ht (zG_V zw_30 zw_31 zw_32 zw_2 zw_33) rfl rfl rfl (by decide +kernel) ⟨Nat.le_of_ble_eq_true rfl, Nat.le_of_ble_eq_true rfl⟩) (zM_V (va_recv hK hP (ci := 12) (q0 := 1) rfl rfl) hPc hKc hDc) rfl rfl hl.1 rfl (lv_room (Nat.le_of_ble_eq_true rfl)) dX12_equivalence_48 ⟨Nat.le_of_ble_eq_true rfl, Nat.le_of_ble_eq_true rfl⟩) hS (fun q _ h => hFc q h) hFc (fun r_12 u_12 t H1 locs ht0 hvm hw_12 hB hz1 hk1 hS => ?_)
                      obtain ⟨rfl, rfl⟩ := hw_12.2 (by decide)
                      obtain ⟨hP1, hK1, hD1⟩ := hB
                      rw [ht0] at hP1
                      have hK1 := va_K.moved hvm.symm hK1
                      obtain ⟨hP, hD⟩ := va_join (wr := [((a 1), .inl (cI, 6792, .inl zI0))]) (w1 := [((a 0), .inr (12, zMo a (upd zI0 0 0)))]) hP hD [1] [0] rfl rfl (by decide) (by decide) hk1 hFc hP1 hD1
                      generalize H1 = H at hP hS ⊢
                      have hP : va_P D vwCl [((a 1), .inl (cI, 6792, .inl zI0)), ((a 0), .inr (12, zMo a (upd zI0 0 0)))] H := hP
                      have hD : va_D A [((a 1), .inl (cI, 6792, .inl zI0)), ((a 0), .inr (12, zMo a (upd zI0 0 0)))] := hD
                      refine lv_if_eq (tgt := 56) hx hb dX12_equivalence_51 (by decide) (fun c_13 => ?_) (fun c_13 => ?_)
                      · skip
                        refine lv_aload_n hx hb dX12_equivalence_56 rfl (lv_at hl 0 rfl) ?_
                        refine lv_aload_n hx hb dX12_equivalence_57 rfl (lv_at hl 0 rfl) ?_
                        refine lv_iload_n hx hb dX12_equivalence_58 rfl (lv_at hl 2 rfl) ?_
                        refine vp_callSi (va_runV (As := [.int p1]) (rest := [.ref (a 0)]) ⟨hx, hb, hml, hown, ht⟩ (k_X12_isFull l D a (upd zI0 0 0) cI p1 h_4) (cwV 1 ht (zG_V zw_69 zw_70 zw_71 zw_2 zw_72) rfl rfl rfl (by decide +kernel) ⟨Nat.le_of_ble_eq_true rfl, Nat.le_of_ble_eq_true rfl⟩) (zR_V (va_recv hK hP (ci := 12) (q0 := 1) rfl rfl) (hP.sub (ws' := [((a 0), .inr (12, zMo a (upd zI0 0 0))), ((a 1), .inl (cI, 6792, .inl zI0))]) [1, 0] rfl) hK) rfl rfl hl.1 rfl (lv_room (Nat.le_of_ble_eq_true rfl)) dX12_equivalence_59 ⟨Nat.le_of_ble_eq_true rfl, Nat.le_of_ble_eq_true rfl⟩).run (fun r_14 hw_14 => ?_)
                        obtain rfl : r_14 = 0 := hw_14
                        refine lv_if_eq (tgt := 115) hx hb dX12_equivalence_62 (by decide) (fun c_15 => ?_) (fun c_15 => ?_)
                        · skip
                          refine lv_iconst (v := 0) hx hb dX12_equivalence_115 (by decide) ?_
                          refine lv_iconst (v := 3) hx hb dX12_equivalence_116 (by decide) ?_
                          have hPc := hP.sub (ws' := [((a 0), .inr (12, zMo a (upd zI0 0 0)))]) [1] rfl
                          have hDc := hD.sub (ws' := [((a 0), .inr (12, zMo a (upd zI0 0 0)))]) [1] (by decide) rfl
                          have hKc := hK.sub (tys' := []) [] rfl
                          have hFc := va_free (wc := [((a 0), .inr (12, zMo a (upd zI0 0 0)))]) hD hS hA [1] rfl
                          refine va_calli (va_runV (As := [.int 0, .int 3]) (rest := []) ⟨hx, hb, hml, hown, ht⟩ (k_X12_no l _ D a (upd zI0 0 0) 0 3 (by decide)) (cwV 2 ht (zG_V zw_30 zw_31 zw_32 zw_2 zw_33) rfl rfl rfl (by decide +kernel) ⟨Nat.le_of_ble_eq_true rfl, Nat.le_of_ble_eq_true rfl⟩) (zM_V (va_recv hK hP (ci := 12) (q0 := 1) rfl rfl) hPc hKc hDc) rfl rfl hl.1 rfl (lv_room (Nat.le_of_ble_eq_true rfl)) dX12_equivalence_117 ⟨Nat.le_of_ble_eq_true rfl, Nat.le_of_ble_eq_true rfl⟩) hS (fun q _ h => hFc q h) hFc (fun r_16 u_16 t H1 locs ht0 hvm hw_16 hB hz1 hk1 hS => ?_)
                          obtain ⟨rfl, rfl⟩ := hw_16.1 rfl
                          obtain ⟨hP1, hK1, hD1⟩ := hB
                          rw [ht0] at hP1
                          have hK1 := va_K.moved hvm.symm hK1
                          obtain ⟨hP, hD⟩ := va_join (wr := [((a 1), .inl (cI, 6792, .inl zI0))]) (w1 := [((a 0), .inr (12, zMo a (upd zI0 0 3)))]) hP hD [1] [0] rfl rfl (by decide) (by decide) hk1 hFc hP1 hD1
                          generalize H1 = H at hP hS ⊢
                          have hP : va_P D vwCl [((a 1), .inl (cI, 6792, .inl zI0)), ((a 0), .inr (12, zMo a (upd zI0 0 3)))] H := hP
                          have hD : va_D A [((a 1), .inl (cI, 6792, .inl zI0)), ((a 0), .inr (12, zMo a (upd zI0 0 3)))] := hD
                          refine lv_if_eq (tgt := 125) hx hb dX12_equivalence_120 (by decide) (fun c_17 => ?_) (fun c_17 => ?_)
                          · skip
                            exact absurd c_17 (by decide)
                          · skip
                            refine lv_iconst (v := 0) hx hb dX12_equivalence_123 (by decide) ?_
                            have hP9 := hP.sub (ws' := [((a 0), .inr (12, zMo a (upd zI0 0 3)))]) [1] rfl
                            have hD9 := hD.sub (ws' := [((a 0), .inr (12, zMo a (upd zI0 0 3)))]) [1] (by decide) rfl
                            have hK9 := hK.sub (tys' := []) [] rfl
                            refine W.widen (k := 0) (n := 0) (Nat.le_of_ble_eq_true rfl) (Nat.le_of_ble_eq_true rfl) ?_
                            exact W.iret (v := 0) hx hb hr (fun t ht0 hW => ⟨⟨0, upd zI0 0 3, rfl, (show zS_equivalence p0 p1 p2 p3 p4 3 0 from (.inr (.inr ⟨rfl, by omega⟩))), (zE_of hP9 hK9 hD9 ht0 hW)⟩, hS.F ht0⟩) hS.2.2 dX12_equivalence_124
                        · skip
                          exact absurd c_15 (by decide)
                      · skip
                        exact absurd c_13 (by decide)
                  · skip
                    refine lv_if_eq (tgt := 46) hx hb dX12_equivalence_39 (by decide) (fun c_18 => ?_) (fun c_18 => ?_)
                    · skip
                      refine lv_iconst (v := 0) hx hb dX12_equivalence_46 (by decide) ?_
                      refine lv_iconst (v := 2) hx hb dX12_equivalence_47 (by decide) ?_
                      have hPc := hP.sub (ws' := [((a 0), .inr (12, zMo a (upd zI0 0 0)))]) [1] rfl
                      have hDc := hD.sub (ws' := [((a 0), .inr (12, zMo a (upd zI0 0 0)))]) [1] (by decide) rfl
                      have hKc := hK.sub (tys' := []) [] rfl
                      have hFc := va_free (wc := [((a 0), .inr (12, zMo a (upd zI0 0 0)))]) hD hS hA [1] rfl
                      refine va_calli (va_runV (As := [.int 0, .int 2]) (rest := []) ⟨hx, hb, hml, hown, ht⟩ (k_X12_no l _ D a (upd zI0 0 0) 0 2 (by decide)) (cwV 2 ht (zG_V zw_30 zw_31 zw_32 zw_2 zw_33) rfl rfl rfl (by decide +kernel) ⟨Nat.le_of_ble_eq_true rfl, Nat.le_of_ble_eq_true rfl⟩) (zM_V (va_recv hK hP (ci := 12) (q0 := 1) rfl rfl) hPc hKc hDc) rfl rfl hl.1 rfl (lv_room (Nat.le_of_ble_eq_true rfl)) dX12_equivalence_48 ⟨Nat.le_of_ble_eq_true rfl, Nat.le_of_ble_eq_true rfl⟩) hS (fun q _ h => hFc q h) hFc (fun r_19 u_19 t H1 locs ht0 hvm hw_19 hB hz1 hk1 hS => ?_)
                      obtain ⟨rfl, rfl⟩ := hw_19.1 rfl
                      obtain ⟨hP1, hK1, hD1⟩ := hB
                      rw [ht0] at hP1
                      have hK1 := va_K.moved hvm.symm hK1
                      obtain ⟨hP, hD⟩ := va_join (wr := [((a 1), .inl (cI, 6792, .inl zI0))]) (w1 := [((a 0), .inr (12, zMo a (upd zI0 0 2)))]) hP hD [1] [0] rfl rfl (by decide) (by decide) hk1 hFc hP1 hD1
                      generalize H1 = H at hP hS ⊢
                      have hP : va_P D vwCl [((a 1), .inl (cI, 6792, .inl zI0)), ((a 0), .inr (12, zMo a (upd zI0 0 2)))] H := hP
                      have hD : va_D A [((a 1), .inl (cI, 6792, .inl zI0)), ((a 0), .inr (12, zMo a (upd zI0 0 2)))] := hD
                      refine lv_if_eq (tgt := 56) hx hb dX12_equivalence_51 (by decide) (fun c_20 => ?_) (fun c_20 => ?_)
                      · skip
                        exact absurd c_20 (by decide)
                      · skip
                        refine lv_iconst (v := 0) hx hb dX12_equivalence_54 (by decide) ?_
                        have hP9 := hP.sub (ws' := [((a 0), .inr (12, zMo a (upd zI0 0 2)))]) [1] rfl
                        have hD9 := hD.sub (ws' := [((a 0), .inr (12, zMo a (upd zI0 0 2)))]) [1] (by decide) rfl
                        have hK9 := hK.sub (tys' := []) [] rfl
                        refine W.widen (k := 0) (n := 0) (Nat.le_of_ble_eq_true rfl) (Nat.le_of_ble_eq_true rfl) ?_
                        exact W.iret (v := 0) hx hb hr (fun t ht0 hW => ⟨⟨0, upd zI0 0 2, rfl, (show zS_equivalence p0 p1 p2 p3 p4 2 0 from (.inr (.inl ⟨rfl, by omega⟩))), (zE_of hP9 hK9 hD9 ht0 hW)⟩, hS.F ht0⟩) hS.2.2 dX12_equivalence_55
                    · skip
                      exact absurd c_18 (by decide)
              · skip
                refine lv_if_eq (tgt := 46) hx hb dX12_equivalence_31 (by decide) (fun c_21 => ?_) (fun c_21 => ?_)
                · skip
                  refine lv_iconst (v := 0) hx hb dX12_equivalence_46 (by decide) ?_
                  refine lv_iconst (v := 2) hx hb dX12_equivalence_47 (by decide) ?_
                  have hPc := hP.sub (ws' := [((a 0), .inr (12, zMo a (upd zI0 0 0)))]) [1] rfl
                  have hDc := hD.sub (ws' := [((a 0), .inr (12, zMo a (upd zI0 0 0)))]) [1] (by decide) rfl
                  have hKc := hK.sub (tys' := []) [] rfl
                  have hFc := va_free (wc := [((a 0), .inr (12, zMo a (upd zI0 0 0)))]) hD hS hA [1] rfl
                  refine va_calli (va_runV (As := [.int 0, .int 2]) (rest := []) ⟨hx, hb, hml, hown, ht⟩ (k_X12_no l _ D a (upd zI0 0 0) 0 2 (by decide)) (cwV 2 ht (zG_V zw_30 zw_31 zw_32 zw_2 zw_33) rfl rfl rfl (by decide +kernel) ⟨Nat.le_of_ble_eq_true rfl, Nat.le_of_ble_eq_true rfl⟩) (zM_V (va_recv hK hP (ci := 12) (q0 := 1) rfl rfl) hPc hKc hDc) rfl rfl hl.1 rfl (lv_room (Nat.le_of_ble_eq_true rfl)) dX12_equivalence_48 ⟨Nat.le_of_ble_eq_true rfl, Nat.le_of_ble_eq_true rfl⟩) hS (fun q _ h => hFc q h) hFc (fun r_22 u_22 t H1 locs ht0 hvm hw_22 hB hz1 hk1 hS => ?_)
                  obtain ⟨rfl, rfl⟩ := hw_22.1 rfl
                  obtain ⟨hP1, hK1, hD1⟩ := hB
                  rw [ht0] at hP1
                  have hK1 := va_K.moved hvm.symm hK1
                  obtain ⟨hP, hD⟩ := va_join (wr := [((a 1), .inl (cI, 6792, .inl zI0))]) (w1 := [((a 0), .inr (12, zMo a (upd zI0 0 2)))]) hP hD [1] [0] rfl rfl (by decide) (by decide) hk1 hFc hP1 hD1
                  generalize H1 = H at hP hS ⊢
                  have hP : va_P D vwCl [((a 1), .inl (cI, 6792, .inl zI0)), ((a 0), .inr (12, zMo a (upd zI0 0 2)))] H := hP
                  have hD : va_D A [((a 1), .inl (cI, 6792, .inl zI0)), ((a 0), .inr (12, zMo a (upd zI0 0 2)))] := hD
                  refine lv_if_eq (tgt := 56) hx hb dX12_equivalence_51 (by decide) (fun c_23 => ?_) (fun c_23 => ?_)
                  · skip
                    exact absurd c_23 (by decide)
                  · skip
                    refine lv_iconst (v := 0) hx hb dX12_equivalence_54 (by decide) ?_
                    have hP9 := hP.sub (ws' := [((a 0), .inr (12, zMo a (upd zI0 0 2)))]) [1] rfl
                    have hD9 := hD.sub (ws' := [((a 0), .inr (12, zMo a (upd zI0 0 2)))]) [1] (by decide) rfl
                    have hK9 := hK.sub (tys' := []) [] rfl
                    refine W.widen (k := 0) (n := 0) (Nat.le_of_ble_eq_true rfl) (Nat.le_of_ble_eq_true rfl) ?_
                    exact W.iret (v := 0) hx hb hr (fun t ht0 hW => ⟨⟨0, upd zI0 0 2, rfl, (show zS_equivalence p0 p1 p2 p3 p4 2 0 from (.inr (.inl ⟨rfl, by omega⟩))), (zE_of hP9 hK9 hD9 ht0 hW)⟩, hS.F ht0⟩) hS.2.2 dX12_equivalence_55
                · skip
                  exact absurd c_21 (by decide)
          · skip
            refine lv_if_eq (tgt := 46) hx hb dX12_equivalence_23 (by decide) (fun c_24 => ?_) (fun c_24 => ?_)
            · skip
              refine lv_iconst (v := 0) hx hb dX12_equivalence_46 (by decide) ?_
              refine lv_iconst (v := 2) hx hb dX12_equivalence_47 (by decide) ?_
              have hPc := hP.sub (ws' := [((a 0), .inr (12, zMo a (upd zI0 0 0)))]) [1] rfl
              have hDc := hD.sub (ws' := [((a 0), .inr (12, zMo a (upd zI0 0 0)))]) [1] (by decide) rfl
              have hKc := hK.sub (tys' := []) [] rfl
              have hFc := va_free (wc := [((a 0), .inr (12, zMo a (upd zI0 0 0)))]) hD hS hA [1] rfl
              refine va_calli (va_runV (As := [.int 0, .int 2]) (rest := []) ⟨hx, hb, hml, hown, ht⟩ (k_X12_no l _ D a (upd zI0 0 0) 0 2 (by decide)) (cwV 2 ht (zG_V zw_30 zw_31 zw_32 zw_2 zw_33) rfl rfl rfl (by decide +kernel) ⟨Nat.le_of_ble_eq_true rfl, Nat.le_of_ble_eq_true rfl⟩) (zM_V (va_recv hK hP (ci := 12) (q0 := 1) rfl rfl) hPc hKc hDc) rfl rfl hl.1 rfl (lv_room (Nat.le_of_ble_eq_true rfl)) dX12_equivalence_48 ⟨Nat.le_of_ble_eq_true rfl, Nat.le_of_ble_eq_true rfl⟩) hS (fun q _ h => hFc q h) hFc (fun r_25 u_25 t H1 locs ht0 hvm hw_25 hB hz1 hk1 hS => ?_)
              obtain ⟨rfl, rfl⟩ := hw_25.1 rfl
              obtain ⟨hP1, hK1, hD1⟩ := hB
              rw [ht0] at hP1
              have hK1 := va_K.moved hvm.symm hK1
              obtain ⟨hP, hD⟩ := va_join (wr := [((a 1), .inl (cI, 6792, .inl zI0))]) (w1 := [((a 0), .inr (12, zMo a (upd zI0 0 2)))]) hP hD [1] [0] rfl rfl (by decide) (by decide) hk1 hFc hP1 hD1
              generalize H1 = H at hP hS ⊢
              have hP : va_P D vwCl [((a 1), .inl (cI, 6792, .inl zI0)), ((a 0), .inr (12, zMo a (upd zI0 0 2)))] H := hP
              have hD : va_D A [((a 1), .inl (cI, 6792, .inl zI0)), ((a 0), .inr (12, zMo a (upd zI0 0 2)))] := hD
              refine lv_if_eq (tgt := 56) hx hb dX12_equivalence_51 (by decide) (fun c_26 => ?_) (fun c_26 => ?_)
              · skip
                exact absurd c_26 (by decide)
              · skip
                refine lv_iconst (v := 0) hx hb dX12_equivalence_54 (by decide) ?_
                have hP9 := hP.sub (ws' := [((a 0), .inr (12, zMo a (upd zI0 0 2)))]) [1] rfl
                have hD9 := hD.sub (ws' := [((a 0), .inr (12, zMo a (upd zI0 0 2)))]) [1] (by decide) rfl
                have hK9 := hK.sub (tys' := []) [] rfl
                refine W.widen (k := 0) (n := 0) (Nat.le_of_ble_eq_true rfl) (Nat.le_of_ble_eq_true rfl) ?_
                exact W.iret (v := 0) hx hb hr (fun t ht0 hW => ⟨⟨0, upd zI0 0 2, rfl, (show zS_equivalence p0 p1 p2 p3 p4 2 0 from (.inr (.inl ⟨rfl, by omega⟩))), (zE_of hP9 hK9 hD9 ht0 hW)⟩, hS.F ht0⟩) hS.2.2 dX12_equivalence_55
            · skip
              exact absurd c_24 (by decide)
      · skip
        refine lv_if_eq (tgt := 46) hx hb dX12_equivalence_16 (by decide) (fun c_27 => ?_) (fun c_27 => ?_)
        · skip
          refine lv_iconst (v := 0) hx hb dX12_equivalence_46 (by decide) ?_
          refine lv_iconst (v := 2) hx hb dX12_equivalence_47 (by decide) ?_
          have hPc := hP.sub (ws' := [((a 0), .inr (12, zMo a (upd zI0 0 0)))]) [1] rfl
          have hDc := hD.sub (ws' := [((a 0), .inr (12, zMo a (upd zI0 0 0)))]) [1] (by decide) rfl
          have hKc := hK.sub (tys' := []) [] rfl
          have hFc := va_free (wc := [((a 0), .inr (12, zMo a (upd zI0 0 0)))]) hD hS hA [1] rfl
          refine va_calli (va_runV (As := [.int 0, .int 2]) (rest := []) ⟨hx, hb, hml, hown, ht⟩ (k_X12_no l _ D a (upd zI0 0 0) 0 2 (by decide)) (cwV 2 ht (zG_V zw_30 zw_31 zw_32 zw_2 zw_33) rfl rfl rfl (by decide +kernel) ⟨Nat.le_of_ble_eq_true rfl, Nat.le_of_ble_eq_true rfl⟩) (zM_V (va_recv hK hP (ci := 12) (q0 := 1) rfl rfl) hPc hKc hDc) rfl rfl hl.1 rfl (lv_room (Nat.le_of_ble_eq_true rfl)) dX12_equivalence_48 ⟨Nat.le_of_ble_eq_true rfl, Nat.le_of_ble_eq_true rfl⟩) hS (fun q _ h => hFc q h) hFc (fun r_28 u_28 t H1 locs ht0 hvm hw_28 hB hz1 hk1 hS => ?_)
          obtain ⟨rfl, rfl⟩ := hw_28.1 rfl
          obtain ⟨hP1, hK1, hD1⟩ := hB
          rw [ht0] at hP1
          have hK1 := va_K.moved hvm.symm hK1
          obtain ⟨hP, hD⟩ := va_join (wr := [((a 1), .inl (cI, 6792, .inl zI0))]) (w1 := [((a 0), .inr (12, zMo a (upd zI0 0 2)))]) hP hD [1] [0] rfl rfl (by decide) (by decide) hk1 hFc hP1 hD1
          generalize H1 = H at hP hS ⊢
          have hP : va_P D vwCl [((a 1), .inl (cI, 6792, .inl zI0)), ((a 0), .inr (12, zMo a (upd zI0 0 2)))] H := hP
          have hD : va_D A [((a 1), .inl (cI, 6792, .inl zI0)), ((a 0), .inr (12, zMo a (upd zI0 0 2)))] := hD
          refine lv_if_eq (tgt := 56) hx hb dX12_equivalence_51 (by decide) (fun c_29 => ?_) (fun c_29 => ?_)
          · skip
            exact absurd c_29 (by decide)
          · skip
            refine lv_iconst (v := 0) hx hb dX12_equivalence_54 (by decide) ?_
            have hP9 := hP.sub (ws' := [((a 0), .inr (12, zMo a (upd zI0 0 2)))]) [1] rfl
            have hD9 := hD.sub (ws' := [((a 0), .inr (12, zMo a (upd zI0 0 2)))]) [1] (by decide) rfl
            have hK9 := hK.sub (tys' := []) [] rfl
            refine W.widen (k := 0) (n := 0) (Nat.le_of_ble_eq_true rfl) (Nat.le_of_ble_eq_true rfl) ?_
            exact W.iret (v := 0) hx hb hr (fun t ht0 hW => ⟨⟨0, upd zI0 0 2, rfl, (show zS_equivalence p0 p1 p2 p3 p4 2 0 from (.inr (.inl ⟨rfl, by omega⟩))), (zE_of hP9 hK9 hD9 ht0 hW)⟩, hS.F ht0⟩) hS.2.2 dX12_equivalence_55
        · skip
          exact absurd c_27 (by decide)
  · skip
    have hPc := hP.sub (ws' := [((a 0), .inr (12, zMo a zI0))]) [0] rfl
    have hDc := hD.sub (ws' := [((a 0), .inr (12, zMo a zI0))]) [0] (by decide) rfl
    have hKc := hK.sub (tys' := []) [] rfl
    have hFc := va_free (wc := [((a 0), .inr (12, zMo a zI0))]) hD hS hA [0] rfl
    refine va_calli (va_runV (As := [.int 0]) (rest := []) ⟨hx, hb, hml, hown, ht⟩ (k_X12_lacks l _ D a zI0 0 (by decide)) (cwV 1 ht (zG_V zw_62 zw_63 zw_64 zw_2 zw_65) rfl rfl rfl (by decide +kernel) ⟨Nat.le_of_ble_eq_true rfl, Nat.le_of_ble_eq_true rfl⟩) (zM_V (va_recv hK hP (ci := 12) (q0 := 0) rfl rfl) hPc hKc hDc) rfl rfl hl.1 rfl (lv_room (Nat.le_of_ble_eq_true rfl)) dX12_equivalence_5 ⟨Nat.le_of_ble_eq_true rfl, Nat.le_of_ble_eq_true rfl⟩) hS (fun q _ h => hFc q h) hFc (fun r_30 u_30 t H1 locs ht0 hvm hw_30 hB hz1 hk1 hS => ?_)
    obtain ⟨rfl, rfl⟩ := hw_30.1 rfl
    obtain ⟨hP1, hK1, hD1⟩ := hB
    rw [ht0] at hP1
    have hK1 := va_K.moved hvm.symm hK1
    obtain ⟨hP, hD⟩ := va_join (wr := [((a 1), .inl (cI, 6792, .inl zI0))]) (w1 := [((a 0), .inr (12, zMo a (upd zI0 0 1)))]) hP hD [0] [1] rfl rfl (by decide) (by decide) hk1 hFc hP1 hD1
    generalize H1 = H at hP hS ⊢
    have hP : va_P D vwCl [((a 1), .inl (cI, 6792, .inl zI0)), ((a 0), .inr (12, zMo a (upd zI0 0 1)))] H := hP
    have hD : va_D A [((a 1), .inl (cI, 6792, .inl zI0)), ((a 0), .inr (12, zMo a (upd zI0 0 1)))] := hD
    refine lv_if_ne (tgt := 54) hx hb dX12_equivalence_8 (by decide) (fun c_31 => ?_) (fun c_31 => ?_)
    · skip
      refine lv_iconst (v := 0) hx hb dX12_equivalence_54 (by decide) ?_
      have hP9 := hP.sub (ws' := [((a 0), .inr (12, zMo a (upd zI0 0 1)))]) [1] rfl
      have hD9 := hD.sub (ws' := [((a 0), .inr (12, zMo a (upd zI0 0 1)))]) [1] (by decide) rfl
      have hK9 := hK.sub (tys' := []) [] rfl
      refine W.widen (k := 0) (n := 0) (Nat.le_of_ble_eq_true rfl) (Nat.le_of_ble_eq_true rfl) ?_
      exact W.iret (v := 0) hx hb hr (fun t ht0 hW => ⟨⟨0, upd zI0 0 1, rfl, (show zS_equivalence p0 p1 p2 p3 p4 1 0 from (.inl ⟨rfl, by omega⟩)), (zE_of hP9 hK9 hD9 ht0 hW)⟩, hS.F ht0⟩) hS.2.2 dX12_equivalence_55
    · skip
      exact absurd c_31 (by decide)
set_option maxHeartbeats 4000000 in
set_option maxRecDepth 100000 in
theorem k_X12_assume (l : Launch) (sz : Nat) (D : va_G) (a : Nat → Nat) (cI : ClassId) (p0 p1 : Int32) : Met l yX12_assume (.code yX12_assume cX12_assume 3 (some .int) :: zT) ({ frames := 2, cells := 0, slots := 0, locals := 43 }) (va_Pc [.ref (a 0), .int p0, .int p1] (zM D [((a 0), .inr (12, zMo a zI0)), ((a 1), .inl (cI, 6792, .inl zI0))] [(cI, .int)] sz)) (va_Qi (fun (r : Int32) (u : Nat → Int32) => zS_assume p0 p1 (u 0) r) (fun u t => zE D [(a 0, .inr (12, zMo a u))] [] (va_A [((a 0), .inr (12, zMo a zI0)), ((a 1), .inl (cI, 6792, .inl zI0))] sz) t) (va_A [((a 0), .inr (12, zMo a zI0)), ((a 1), .inl (cI, 6792, .inl zI0))] sz)) 0 0 (va_A [((a 0), .inr (12, zMo a zI0)), ((a 1), .inl (cI, 6792, .inl zI0))] sz) := by
  refine Met.ofW (cc := cX12_assume) (maxL := 3) (ret := (some .int)) (by decide) rfl ?_
  intro p e s m args below meth c s₁ B hml hv
  obtain ⟨rfl, hsz, hP, hK, hD0⟩ := hv
  have hx := B.exec
  have hb := B.bytes
  have hr := B.returns
  have hts := atoms_spec (ws := (.code yX12_assume cX12_assume 3 (some .int) :: zT)) B.pre
  have ht : ∀ w ∈ zT, w.before _ s = true := fun w h => hts w (List.mem_cons_of_mem _ h)
  have hown : s.vm.findClass RX12 = some m.cls := findClass_of_methodNamed B.named
  have hlocks := B.notSynchronized
  subst hsz
  have hD := hD0.self (sz := s.heap.size)
  generalize hAe : va_A [((a 0), .inr (12, zMo a zI0)), ((a 1), .inl (cI, 6792, .inl zI0))] s.heap.size = A at hD ⊢
  have hA : ∀ q : Nat, s.heap.size ≤ q → A q := fun q h => by rw [← hAe]; exact Or.inr h
  have hS : va_S A s.heap s.heap [] := va_S.rf
  have hP : va_P D vwCl [((a 0), .inr (12, zMo a zI0)), ((a 1), .inl (cI, 6792, .inl zI0))] s.heap := hP
  have hl := lv_entry ([.ref (a 0), .int p0, .int p1]) (n := 3) (Nat.le_of_ble_eq_true rfl)
  rw [lg_entry_eq]
  generalize (lg_sl ([.ref (a 0), .int p0, .int p1]) ++ List.replicate (3 - (lg_sl ([.ref (a 0), .int p0, .int p1])).length) Slot.unset).toArray = ls at hl ⊢
  have hl : lv_has ls 3 [(0, .ref (a 0)), (1, .int p0), (2, .int p1)] := hl
  skip
  refine lv_aload_n hx hb dX12_assume_0 rfl (lv_at hl 0 rfl) ?_
  refine lv_iload_n hx hb dX12_assume_1 rfl (lv_at hl 1 rfl) ?_
  refine vp_callSi (va_runS (As := [.int p0]) (rest := [.ref (a 0)]) ⟨hx, hb, hml, hown, ht⟩ (k_X12_isRegister l p0) (va_cwS 1 ht (zG_S zw_59 zw_60 zw_2 zw_61) rfl rfl rfl (by decide +kernel) ⟨Nat.le_of_ble_eq_true rfl, Nat.le_of_ble_eq_true rfl⟩) zN_S rfl rfl hl.1 rfl (lv_room (Nat.le_of_ble_eq_true rfl)) dX12_assume_2 ⟨Nat.le_of_ble_eq_true rfl, Nat.le_of_ble_eq_true rfl⟩).run (fun r_1 hw_1 => ?_)
  rcases hw_1 with ⟨rfl, h_1⟩ | ⟨rfl, h_1⟩
  · skip
    refine lv_if_eq (tgt := 19) hx hb dX12_assume_5 (by decide) (fun c_2 => ?_) (fun c_2 => ?_)
    · skip
      exact absurd c_2 (by decide)
    · skip
      refine lv_iload_n hx hb dX12_assume_8 rfl (lv_at hl 2 rfl) ?_
      refine vp_callSi (va_runS (As := [.int p1]) (rest := [.ref (a 0)]) ⟨hx, hb, hml, hown, ht⟩ (k_X12_isRegister l p1) (va_cwS 1 ht (zG_S zw_59 zw_60 zw_2 zw_61) rfl rfl rfl (by decide +kernel) ⟨Nat.le_of_ble_eq_true rfl, Nat.le_of_ble_eq_true rfl⟩) zN_S rfl rfl hl.1 rfl (lv_room (Nat.le_of_ble_eq_true rfl)) dX12_assume_9 ⟨Nat.le_of_ble_eq_true rfl, Nat.le_of_ble_eq_true rfl⟩).run (fun r_3 hw_3 => ?_)
      rcases hw_3 with ⟨rfl, h_3⟩ | ⟨rfl, h_3⟩
      · skip
        refine lv_if_eq (tgt := 19) hx hb dX12_assume_12 (by decide) (fun c_4 => ?_) (fun c_4 => ?_)
        · skip
          exact absurd c_4 (by decide)
        · skip
          refine lv_iconst (v := 1) hx hb dX12_assume_15 (by decide) ?_
          refine lv_goto (tgt := 20) hx hb dX12_assume_16 (by decide) ?_
          have hPc := hP.sub (ws' := [((a 0), .inr (12, zMo a zI0))]) [0] rfl
          have hDc := hD.sub (ws' := [((a 0), .inr (12, zMo a zI0))]) [0] (by decide) rfl
          have hKc := hK.sub (tys' := []) [] rfl
          have hFc := va_free (wc := [((a 0), .inr (12, zMo a zI0))]) hD hS hA [0] rfl
          refine va_calli (va_runV (As := [.int 1]) (rest := []) ⟨hx, hb, hml, hown, ht⟩ (k_X12_lacks l _ D a zI0 1 (by decide)) (cwV 1 ht (zG_V zw_62 zw_63 zw_64 zw_2 zw_65) rfl rfl rfl (by decide +kernel) ⟨Nat.le_of_ble_eq_true rfl, Nat.le_of_ble_eq_true rfl⟩) (zM_V (va_recv hK hP (ci := 12) (q0 := 0) rfl rfl) hPc hKc hDc) rfl rfl hl.1 rfl (lv_room (Nat.le_of_ble_eq_true rfl)) dX12_assume_20 ⟨Nat.le_of_ble_eq_true rfl, Nat.le_of_ble_eq_true rfl⟩) hS (fun q _ h => hFc q h) hFc (fun r_5 u_5 t H1 locs ht0 hvm hw_5 hB hz1 hk1 hS => ?_)
          obtain ⟨rfl, rfl⟩ := hw_5.2 (by decide)
          obtain ⟨hP1, hK1, hD1⟩ := hB
          rw [ht0] at hP1
          have hK1 := va_K.moved hvm.symm hK1
          obtain ⟨hP, hD⟩ := va_join (wr := [((a 1), .inl (cI, 6792, .inl zI0))]) (w1 := [((a 0), .inr (12, zMo a (upd zI0 0 0)))]) hP hD [0] [1] rfl rfl (by decide) (by decide) hk1 hFc hP1 hD1
          generalize H1 = H at hP hS ⊢
          have hP : va_P D vwCl [((a 1), .inl (cI, 6792, .inl zI0)), ((a 0), .inr (12, zMo a (upd zI0 0 0)))] H := hP
          have hD : va_D A [((a 1), .inl (cI, 6792, .inl zI0)), ((a 0), .inr (12, zMo a (upd zI0 0 0)))] := hD
          refine lv_if_ne (tgt := 63) hx hb dX12_assume_23 (by decide) (fun c_6 => ?_) (fun c_6 => ?_)
          · skip
            exact absurd c_6 (by decide)
          · skip
            refine lv_aload_n hx hb dX12_assume_26 rfl (lv_at hl 0 rfl) ?_
            refine lv_aload_n hx hb dX12_assume_27 rfl (lv_at hl 0 rfl) ?_
            refine lv_iload_n hx hb dX12_assume_28 rfl (lv_at hl 1 rfl) ?_
            refine vp_callSi (va_runV (As := [.int p0]) (rest := [.ref (a 0)]) ⟨hx, hb, hml, hown, ht⟩ (k_X12_isFull l D a (upd zI0 0 0) cI p0 h_1) (cwV 1 ht (zG_V zw_69 zw_70 zw_71 zw_2 zw_72) rfl rfl rfl (by decide +kernel) ⟨Nat.le_of_ble_eq_true rfl, Nat.le_of_ble_eq_true rfl⟩) (zR_V (va_recv hK hP (ci := 12) (q0 := 1) rfl rfl) (hP.sub (ws' := [((a 0), .inr (12, zMo a (upd zI0 0 0))), ((a 1), .inl (cI, 6792, .inl zI0))]) [1, 0] rfl) hK) rfl rfl hl.1 rfl (lv_room (Nat.le_of_ble_eq_true rfl)) dX12_assume_29 ⟨Nat.le_of_ble_eq_true rfl, Nat.le_of_ble_eq_true rfl⟩).run (fun r_7 hw_7 => ?_)
            obtain rfl : r_7 = 0 := hw_7
            refine lv_if_eq (tgt := 55) hx hb dX12_assume_32 (by decide) (fun c_8 => ?_) (fun c_8 => ?_)
            · skip
              refine lv_iconst (v := 0) hx hb dX12_assume_55 (by decide) ?_
              refine lv_iconst (v := 2) hx hb dX12_assume_56 (by decide) ?_
              have hPc := hP.sub (ws' := [((a 0), .inr (12, zMo a (upd zI0 0 0)))]) [1] rfl
              have hDc := hD.sub (ws' := [((a 0), .inr (12, zMo a (upd zI0 0 0)))]) [1] (by decide) rfl
              have hKc := hK.sub (tys' := []) [] rfl
              have hFc := va_free (wc := [((a 0), .inr (12, zMo a (upd zI0 0 0)))]) hD hS hA [1] rfl
              refine va_calli (va_runV (As := [.int 0, .int 2]) (rest := []) ⟨hx, hb, hml, hown, ht⟩ (k_X12_no l _ D a (upd zI0 0 0) 0 2 (by decide)) (cwV 2 ht (zG_V zw_30 zw_31 zw_32 zw_2 zw_33) rfl rfl rfl (by decide +kernel) ⟨Nat.le_of_ble_eq_true rfl, Nat.le_of_ble_eq_true rfl⟩) (zM_V (va_recv hK hP (ci := 12) (q0 := 1) rfl rfl) hPc hKc hDc) rfl rfl hl.1 rfl (lv_room (Nat.le_of_ble_eq_true rfl)) dX12_assume_57 ⟨Nat.le_of_ble_eq_true rfl, Nat.le_of_ble_eq_true rfl⟩) hS (fun q _ h => hFc q h) hFc (fun r_9 u_9 t H1 locs ht0 hvm hw_9 hB hz1 hk1 hS => ?_)
              obtain ⟨rfl, rfl⟩ := hw_9.1 rfl
              obtain ⟨hP1, hK1, hD1⟩ := hB
              rw [ht0] at hP1
              have hK1 := va_K.moved hvm.symm hK1
              obtain ⟨hP, hD⟩ := va_join (wr := [((a 1), .inl (cI, 6792, .inl zI0))]) (w1 := [((a 0), .inr (12, zMo a (upd zI0 0 2)))]) hP hD [1] [0] rfl rfl (by decide) (by decide) hk1 hFc hP1 hD1
              generalize H1 = H at hP hS ⊢
              have hP : va_P D vwCl [((a 1), .inl (cI, 6792, .inl zI0)), ((a 0), .inr (12, zMo a (upd zI0 0 2)))] H := hP
              have hD : va_D A [((a 1), .inl (cI, 6792, .inl zI0)), ((a 0), .inr (12, zMo a (upd zI0 0 2)))] := hD
              refine lv_if_eq (tgt := 65) hx hb dX12_assume_60 (by decide) (fun c_10 => ?_) (fun c_10 => ?_)
              · skip
                exact absurd c_10 (by decide)
              · skip
                refine lv_iconst (v := 0) hx hb dX12_assume_63 (by decide) ?_
                have hP9 := hP.sub (ws' := [((a 0), .inr (12, zMo a (upd zI0 0 2)))]) [1] rfl
                have hD9 := hD.sub (ws' := [((a 0), .inr (12, zMo a (upd zI0 0 2)))]) [1] (by decide) rfl
                have hK9 := hK.sub (tys' := []) [] rfl
                refine W.widen (k := 0) (n := 0) (Nat.le_of_ble_eq_true rfl) (Nat.le_of_ble_eq_true rfl) ?_
                exact W.iret (v := 0) hx hb hr (fun t ht0 hW => ⟨⟨0, upd zI0 0 2, rfl, (show zS_assume p0 p1 2 0 from (.inr ⟨rfl, by omega⟩)), (zE_of hP9 hK9 hD9 ht0 hW)⟩, hS.F ht0⟩) hS.2.2 dX12_assume_64
            · skip
              exact absurd c_8 (by decide)
      · skip
        refine lv_if_eq (tgt := 19) hx hb dX12_assume_12 (by decide) (fun c_11 => ?_) (fun c_11 => ?_)
        · skip
          refine lv_iconst (v := 0) hx hb dX12_assume_19 (by decide) ?_
          have hPc := hP.sub (ws' := [((a 0), .inr (12, zMo a zI0))]) [0] rfl
          have hDc := hD.sub (ws' := [((a 0), .inr (12, zMo a zI0))]) [0] (by decide) rfl
          have hKc := hK.sub (tys' := []) [] rfl
          have hFc := va_free (wc := [((a 0), .inr (12, zMo a zI0))]) hD hS hA [0] rfl
          refine va_calli (va_runV (As := [.int 0]) (rest := []) ⟨hx, hb, hml, hown, ht⟩ (k_X12_lacks l _ D a zI0 0 (by decide)) (cwV 1 ht (zG_V zw_62 zw_63 zw_64 zw_2 zw_65) rfl rfl rfl (by decide +kernel) ⟨Nat.le_of_ble_eq_true rfl, Nat.le_of_ble_eq_true rfl⟩) (zM_V (va_recv hK hP (ci := 12) (q0 := 0) rfl rfl) hPc hKc hDc) rfl rfl hl.1 rfl (lv_room (Nat.le_of_ble_eq_true rfl)) dX12_assume_20 ⟨Nat.le_of_ble_eq_true rfl, Nat.le_of_ble_eq_true rfl⟩) hS (fun q _ h => hFc q h) hFc (fun r_12 u_12 t H1 locs ht0 hvm hw_12 hB hz1 hk1 hS => ?_)
          obtain ⟨rfl, rfl⟩ := hw_12.1 rfl
          obtain ⟨hP1, hK1, hD1⟩ := hB
          rw [ht0] at hP1
          have hK1 := va_K.moved hvm.symm hK1
          obtain ⟨hP, hD⟩ := va_join (wr := [((a 1), .inl (cI, 6792, .inl zI0))]) (w1 := [((a 0), .inr (12, zMo a (upd zI0 0 1)))]) hP hD [0] [1] rfl rfl (by decide) (by decide) hk1 hFc hP1 hD1
          generalize H1 = H at hP hS ⊢
          have hP : va_P D vwCl [((a 1), .inl (cI, 6792, .inl zI0)), ((a 0), .inr (12, zMo a (upd zI0 0 1)))] H := hP
          have hD : va_D A [((a 1), .inl (cI, 6792, .inl zI0)), ((a 0), .inr (12, zMo a (upd zI0 0 1)))] := hD
          refine lv_if_ne (tgt := 63) hx hb dX12_assume_23 (by decide) (fun c_13 => ?_) (fun c_13 => ?_)
          · skip
            refine lv_iconst (v := 0) hx hb dX12_assume_63 (by decide) ?_
            have hP9 := hP.sub (ws' := [((a 0), .inr (12, zMo a (upd zI0 0 1)))]) [1] rfl
            have hD9 := hD.sub (ws' := [((a 0), .inr (12, zMo a (upd zI0 0 1)))]) [1] (by decide) rfl
            have hK9 := hK.sub (tys' := []) [] rfl
            refine W.widen (k := 0) (n := 0) (Nat.le_of_ble_eq_true rfl) (Nat.le_of_ble_eq_true rfl) ?_
            exact W.iret (v := 0) hx hb hr (fun t ht0 hW => ⟨⟨0, upd zI0 0 1, rfl, (show zS_assume p0 p1 1 0 from (.inl ⟨rfl, by omega⟩)), (zE_of hP9 hK9 hD9 ht0 hW)⟩, hS.F ht0⟩) hS.2.2 dX12_assume_64
          · skip
            exact absurd c_13 (by decide)
        · skip
          exact absurd c_11 (by decide)
  · skip
    refine lv_if_eq (tgt := 19) hx hb dX12_assume_5 (by decide) (fun c_14 => ?_) (fun c_14 => ?_)
    · skip
      refine lv_iconst (v := 0) hx hb dX12_assume_19 (by decide) ?_
      have hPc := hP.sub (ws' := [((a 0), .inr (12, zMo a zI0))]) [0] rfl
      have hDc := hD.sub (ws' := [((a 0), .inr (12, zMo a zI0))]) [0] (by decide) rfl
      have hKc := hK.sub (tys' := []) [] rfl
      have hFc := va_free (wc := [((a 0), .inr (12, zMo a zI0))]) hD hS hA [0] rfl
      refine va_calli (va_runV (As := [.int 0]) (rest := []) ⟨hx, hb, hml, hown, ht⟩ (k_X12_lacks l _ D a zI0 0 (by decide)) (cwV 1 ht (zG_V zw_62 zw_63 zw_64 zw_2 zw_65) rfl rfl rfl (by decide +kernel) ⟨Nat.le_of_ble_eq_true rfl, Nat.le_of_ble_eq_true rfl⟩) (zM_V (va_recv hK hP (ci := 12) (q0 := 0) rfl rfl) hPc hKc hDc) rfl rfl hl.1 rfl (lv_room (Nat.le_of_ble_eq_true rfl)) dX12_assume_20 ⟨Nat.le_of_ble_eq_true rfl, Nat.le_of_ble_eq_true rfl⟩) hS (fun q _ h => hFc q h) hFc (fun r_15 u_15 t H1 locs ht0 hvm hw_15 hB hz1 hk1 hS => ?_)
      obtain ⟨rfl, rfl⟩ := hw_15.1 rfl
      obtain ⟨hP1, hK1, hD1⟩ := hB
      rw [ht0] at hP1
      have hK1 := va_K.moved hvm.symm hK1
      obtain ⟨hP, hD⟩ := va_join (wr := [((a 1), .inl (cI, 6792, .inl zI0))]) (w1 := [((a 0), .inr (12, zMo a (upd zI0 0 1)))]) hP hD [0] [1] rfl rfl (by decide) (by decide) hk1 hFc hP1 hD1
      generalize H1 = H at hP hS ⊢
      have hP : va_P D vwCl [((a 1), .inl (cI, 6792, .inl zI0)), ((a 0), .inr (12, zMo a (upd zI0 0 1)))] H := hP
      have hD : va_D A [((a 1), .inl (cI, 6792, .inl zI0)), ((a 0), .inr (12, zMo a (upd zI0 0 1)))] := hD
      refine lv_if_ne (tgt := 63) hx hb dX12_assume_23 (by decide) (fun c_16 => ?_) (fun c_16 => ?_)
      · skip
        refine lv_iconst (v := 0) hx hb dX12_assume_63 (by decide) ?_
        have hP9 := hP.sub (ws' := [((a 0), .inr (12, zMo a (upd zI0 0 1)))]) [1] rfl
        have hD9 := hD.sub (ws' := [((a 0), .inr (12, zMo a (upd zI0 0 1)))]) [1] (by decide) rfl
        have hK9 := hK.sub (tys' := []) [] rfl
        refine W.widen (k := 0) (n := 0) (Nat.le_of_ble_eq_true rfl) (Nat.le_of_ble_eq_true rfl) ?_
        exact W.iret (v := 0) hx hb hr (fun t ht0 hW => ⟨⟨0, upd zI0 0 1, rfl, (show zS_assume p0 p1 1 0 from (.inl ⟨rfl, by omega⟩)), (zE_of hP9 hK9 hD9 ht0 hW)⟩, hS.F ht0⟩) hS.2.2 dX12_assume_64
      · skip
        exact absurd c_16 (by decide)
    · skip
      exact absurd c_14 (by decide)
set_option maxHeartbeats 4000000 in
set_option maxRecDepth 100000 in
theorem k_X12_giveUp (l : Launch) (sz : Nat) (D : va_G) (a : Nat → Nat) (cI : ClassId) : Met l yX12_giveUp (.code yX12_giveUp cX12_giveUp 1 (some .int) :: zT) ({ frames := 2, cells := 0, slots := 0, locals := 43 }) (va_Pc [.ref (a 0)] (zM D [((a 0), .inr (12, zMo a zI0)), ((a 1), .inl (cI, 6792, .inl zI0))] [(cI, .int)] sz)) (va_Qi (fun (r : Int32) (u : Nat → Int32) => zS_giveUp (u 0) r) (fun u t => zE D [(a 0, .inr (12, zMo a u))] [] (va_A [((a 0), .inr (12, zMo a zI0)), ((a 1), .inl (cI, 6792, .inl zI0))] sz) t) (va_A [((a 0), .inr (12, zMo a zI0)), ((a 1), .inl (cI, 6792, .inl zI0))] sz)) 0 0 (va_A [((a 0), .inr (12, zMo a zI0)), ((a 1), .inl (cI, 6792, .inl zI0))] sz) := by
  refine Met.ofW (cc := cX12_giveUp) (maxL := 1) (ret := (some .int)) (by decide) rfl ?_
  intro p e s m args below meth c s₁ B hml hv
  obtain ⟨rfl, hsz, hP, hK, hD0⟩ := hv
  have hx := B.exec
  have hb := B.bytes
  have hr := B.returns
  have hts := atoms_spec (ws := (.code yX12_giveUp cX12_giveUp 1 (some .int) :: zT)) B.pre
  have ht : ∀ w ∈ zT, w.before _ s = true := fun w h => hts w (List.mem_cons_of_mem _ h)
  have hown : s.vm.findClass RX12 = some m.cls := findClass_of_methodNamed B.named
  have hlocks := B.notSynchronized
  subst hsz
  have hD := hD0.self (sz := s.heap.size)
  generalize hAe : va_A [((a 0), .inr (12, zMo a zI0)), ((a 1), .inl (cI, 6792, .inl zI0))] s.heap.size = A at hD ⊢
  have hA : ∀ q : Nat, s.heap.size ≤ q → A q := fun q h => by rw [← hAe]; exact Or.inr h
  have hS : va_S A s.heap s.heap [] := va_S.rf
  have hP : va_P D vwCl [((a 0), .inr (12, zMo a zI0)), ((a 1), .inl (cI, 6792, .inl zI0))] s.heap := hP
  have hl := lv_entry ([.ref (a 0)]) (n := 1) (Nat.le_of_ble_eq_true rfl)
  rw [lg_entry_eq]
  generalize (lg_sl ([.ref (a 0)]) ++ List.replicate (1 - (lg_sl ([.ref (a 0)])).length) Slot.unset).toArray = ls at hl ⊢
  have hl : lv_has ls 1 [(0, .ref (a 0))] := hl
  skip
  refine lv_aload_n hx hb dX12_giveUp_0 rfl (lv_at hl 0 rfl) ?_
  refine lv_aload_n hx hb dX12_giveUp_1 rfl (lv_at hl 0 rfl) ?_
  refine vp_callSi (va_runV (As := []) (rest := [.ref (a 0)]) ⟨hx, hb, hml, hown, ht⟩ (k_X12_openNow l D a zI0 cI) (cwV 0 ht (zG_V zw_51 zw_52 zw_53 zw_2 zw_54) rfl rfl rfl (by decide +kernel) ⟨Nat.le_of_ble_eq_true rfl, Nat.le_of_ble_eq_true rfl⟩) (zR_V (va_recv hK hP (ci := 12) (q0 := 0) rfl rfl) hP hK) rfl rfl hl.1 rfl (lv_room (Nat.le_of_ble_eq_true rfl)) dX12_giveUp_2 ⟨Nat.le_of_ble_eq_true rfl, Nat.le_of_ble_eq_true rfl⟩).run (fun r_1 hw_1 => ?_)
  obtain rfl : r_1 = 0 := hw_1
  refine lv_if_le (tgt := 12) hx hb dX12_giveUp_5 (by decide) (fun c_2 => ?_) (fun c_2 => ?_)
  · skip
    refine lv_iconst (v := 0) hx hb dX12_giveUp_12 (by decide) ?_
    have hPc := hP.sub (ws' := [((a 0), .inr (12, zMo a zI0))]) [0] rfl
    have hDc := hD.sub (ws' := [((a 0), .inr (12, zMo a zI0))]) [0] (by decide) rfl
    have hKc := hK.sub (tys' := []) [] rfl
    have hFc := va_free (wc := [((a 0), .inr (12, zMo a zI0))]) hD hS hA [0] rfl
    refine va_calli (va_runV (As := [.int 0]) (rest := []) ⟨hx, hb, hml, hown, ht⟩ (k_X12_lacks l _ D a zI0 0 (by decide)) (cwV 1 ht (zG_V zw_62 zw_63 zw_64 zw_2 zw_65) rfl rfl rfl (by decide +kernel) ⟨Nat.le_of_ble_eq_true rfl, Nat.le_of_ble_eq_true rfl⟩) (zM_V (va_recv hK hP (ci := 12) (q0 := 0) rfl rfl) hPc hKc hDc) rfl rfl hl.1 rfl (lv_room (Nat.le_of_ble_eq_true rfl)) dX12_giveUp_13 ⟨Nat.le_of_ble_eq_true rfl, Nat.le_of_ble_eq_true rfl⟩) hS (fun q _ h => hFc q h) hFc (fun r_3 u_3 t H1 locs ht0 hvm hw_3 hB hz1 hk1 hS => ?_)
    obtain ⟨rfl, rfl⟩ := hw_3.1 rfl
    obtain ⟨hP1, hK1, hD1⟩ := hB
    rw [ht0] at hP1
    have hK1 := va_K.moved hvm.symm hK1
    obtain ⟨hP, hD⟩ := va_join (wr := [((a 1), .inl (cI, 6792, .inl zI0))]) (w1 := [((a 0), .inr (12, zMo a (upd zI0 0 1)))]) hP hD [0] [1] rfl rfl (by decide) (by decide) hk1 hFc hP1 hD1
    generalize H1 = H at hP hS ⊢
    have hP : va_P D vwCl [((a 1), .inl (cI, 6792, .inl zI0)), ((a 0), .inr (12, zMo a (upd zI0 0 1)))] H := hP
    have hD : va_D A [((a 1), .inl (cI, 6792, .inl zI0)), ((a 0), .inr (12, zMo a (upd zI0 0 1)))] := hD
    refine lv_if_eq (tgt := 21) hx hb dX12_giveUp_16 (by decide) (fun c_4 => ?_) (fun c_4 => ?_)
    · skip
      exact absurd c_4 (by decide)
    · skip
      refine lv_iconst (v := 0) hx hb dX12_giveUp_19 (by decide) ?_
      have hP9 := hP.sub (ws' := [((a 0), .inr (12, zMo a (upd zI0 0 1)))]) [1] rfl
      have hD9 := hD.sub (ws' := [((a 0), .inr (12, zMo a (upd zI0 0 1)))]) [1] (by decide) rfl
      have hK9 := hK.sub (tys' := []) [] rfl
      refine W.widen (k := 0) (n := 0) (Nat.le_of_ble_eq_true rfl) (Nat.le_of_ble_eq_true rfl) ?_
      exact W.iret (v := 0) hx hb hr (fun t ht0 hW => ⟨⟨0, upd zI0 0 1, rfl, (show zS_giveUp 1 0 from ⟨rfl, by trivial⟩), (zE_of hP9 hK9 hD9 ht0 hW)⟩, hS.F ht0⟩) hS.2.2 dX12_giveUp_20
  · skip
    exact absurd c_2 (by decide)
set_option maxHeartbeats 4000000 in
set_option maxRecDepth 100000 in
theorem k_X12_lemma (l : Launch) (sz : Nat) (D : va_G) (a : Nat → Nat) (cI : ClassId) (p0 p1 : Int32) : Met l yX12_lemma (.code yX12_lemma cX12_lemma 3 (some .int) :: zT) ({ frames := 4, cells := 0, slots := 0, locals := 91 }) (va_Pc [.ref (a 0), .int p0, .int p1] (zM D [((a 0), .inr (12, zMo a zI0)), ((a 1), .inl (cI, 6792, .inl zI0))] [(cI, .int)] sz)) (va_Qi (fun (r : Int32) (u : Nat → Int32) => zS_lemma p0 p1 (u 0) r) (fun u t => zE D [(a 0, .inr (12, zMo a u))] [] (va_A [((a 0), .inr (12, zMo a zI0)), ((a 1), .inl (cI, 6792, .inl zI0))] sz) t) (va_A [((a 0), .inr (12, zMo a zI0)), ((a 1), .inl (cI, 6792, .inl zI0))] sz)) 0 0 (va_A [((a 0), .inr (12, zMo a zI0)), ((a 1), .inl (cI, 6792, .inl zI0))] sz) := by
  refine Met.ofW (cc := cX12_lemma) (maxL := 3) (ret := (some .int)) (by decide) rfl ?_
  intro p e s m args below meth c s₁ B hml hv
  obtain ⟨rfl, hsz, hP, hK, hD0⟩ := hv
  have hx := B.exec
  have hb := B.bytes
  have hr := B.returns
  have hts := atoms_spec (ws := (.code yX12_lemma cX12_lemma 3 (some .int) :: zT)) B.pre
  have ht : ∀ w ∈ zT, w.before _ s = true := fun w h => hts w (List.mem_cons_of_mem _ h)
  have hown : s.vm.findClass RX12 = some m.cls := findClass_of_methodNamed B.named
  have hlocks := B.notSynchronized
  subst hsz
  have hD := hD0.self (sz := s.heap.size)
  generalize hAe : va_A [((a 0), .inr (12, zMo a zI0)), ((a 1), .inl (cI, 6792, .inl zI0))] s.heap.size = A at hD ⊢
  have hA : ∀ q : Nat, s.heap.size ≤ q → A q := fun q h => by rw [← hAe]; exact Or.inr h
  have hS : va_S A s.heap s.heap [] := va_S.rf
  have hP : va_P D vwCl [((a 0), .inr (12, zMo a zI0)), ((a 1), .inl (cI, 6792, .inl zI0))] s.heap := hP
  have hl := lv_entry ([.ref (a 0), .int p0, .int p1]) (n := 3) (Nat.le_of_ble_eq_true rfl)
  rw [lg_entry_eq]
  generalize (lg_sl ([.ref (a 0), .int p0, .int p1]) ++ List.replicate (3 - (lg_sl ([.ref (a 0), .int p0, .int p1])).length) Slot.unset).toArray = ls at hl ⊢
  have hl : lv_has ls 3 [(0, .ref (a 0)), (1, .int p0), (2, .int p1)] := hl
  skip
  refine lv_aload_n hx hb dX12_lemma_0 rfl (lv_at hl 0 rfl) ?_
  refine lv_iload_n hx hb dX12_lemma_1 rfl (lv_at hl 1 rfl) ?_
  refine vp_callSi (va_runS (As := [.int p0]) (rest := [.ref (a 0)]) ⟨hx, hb, hml, hown, ht⟩ (k_X12_isName l p0) (va_cwS 1 ht (zG_S zw_66 zw_67 zw_2 zw_68) rfl rfl rfl (by decide +kernel) ⟨Nat.le_of_ble_eq_true rfl, Nat.le_of_ble_eq_true rfl⟩) zN_S rfl rfl hl.1 rfl (lv_room (Nat.le_of_ble_eq_true rfl)) dX12_lemma_2 ⟨Nat.le_of_ble_eq_true rfl, Nat.le_of_ble_eq_true rfl⟩).run (fun r_1 hw_1 => ?_)
  rcases hw_1 with ⟨rfl, h_1⟩ | ⟨rfl, h_1⟩
  · skip
    have hPc := hP.sub (ws' := [((a 0), .inr (12, zMo a zI0))]) [0] rfl
    have hDc := hD.sub (ws' := [((a 0), .inr (12, zMo a zI0))]) [0] (by decide) rfl
    have hKc := hK.sub (tys' := []) [] rfl
    have hFc := va_free (wc := [((a 0), .inr (12, zMo a zI0))]) hD hS hA [0] rfl
    refine va_calli (va_runV (As := [.int 1]) (rest := []) ⟨hx, hb, hml, hown, ht⟩ (k_X12_lacks l _ D a zI0 1 (by decide)) (cwV 1 ht (zG_V zw_62 zw_63 zw_64 zw_2 zw_65) rfl rfl rfl (by decide +kernel) ⟨Nat.le_of_ble_eq_true rfl, Nat.le_of_ble_eq_true rfl⟩) (zM_V (va_recv hK hP (ci := 12) (q0 := 0) rfl rfl) hPc hKc hDc) rfl rfl hl.1 rfl (lv_room (Nat.le_of_ble_eq_true rfl)) dX12_lemma_5 ⟨Nat.le_of_ble_eq_true rfl, Nat.le_of_ble_eq_true rfl⟩) hS (fun q _ h => hFc q h) hFc (fun r_2 u_2 t H1 locs ht0 hvm hw_2 hB hz1 hk1 hS => ?_)
    obtain ⟨rfl, rfl⟩ := hw_2.2 (by decide)
    obtain ⟨hP1, hK1, hD1⟩ := hB
    rw [ht0] at hP1
    have hK1 := va_K.moved hvm.symm hK1
    obtain ⟨hP, hD⟩ := va_join (wr := [((a 1), .inl (cI, 6792, .inl zI0))]) (w1 := [((a 0), .inr (12, zMo a (upd zI0 0 0)))]) hP hD [0] [1] rfl rfl (by decide) (by decide) hk1 hFc hP1 hD1
    generalize H1 = H at hP hS ⊢
    have hP : va_P D vwCl [((a 1), .inl (cI, 6792, .inl zI0)), ((a 0), .inr (12, zMo a (upd zI0 0 0)))] H := hP
    have hD : va_D A [((a 1), .inl (cI, 6792, .inl zI0)), ((a 0), .inr (12, zMo a (upd zI0 0 0)))] := hD
    refine lv_if_ne (tgt := 38) hx hb dX12_lemma_8 (by decide) (fun c_3 => ?_) (fun c_3 => ?_)
    · skip
      exact absurd c_3 (by decide)
    · skip
      refine lv_aload_n hx hb dX12_lemma_11 rfl (lv_at hl 0 rfl) ?_
      refine lv_iload_n hx hb dX12_lemma_12 rfl (lv_at hl 2 rfl) ?_
      refine vp_callSi (va_runS (As := [.int p1]) (rest := [.ref (a 0)]) ⟨hx, hb, hml, hown, ht⟩ (k_X12_isChain l p1) (va_cwS 1 ht (zG_S zw_77 zw_78 zw_2 zw_79) rfl rfl rfl (by decide +kernel) ⟨Nat.le_of_ble_eq_true rfl, Nat.le_of_ble_eq_true rfl⟩) zN_S rfl rfl hl.1 rfl (lv_room (Nat.le_of_ble_eq_true rfl)) dX12_lemma_13 ⟨Nat.le_of_ble_eq_true rfl, Nat.le_of_ble_eq_true rfl⟩).run (fun r_4 hw_4 => ?_)
      rcases hw_4 with ⟨rfl, h_4⟩ | ⟨rfl, h_4⟩
      · skip
        refine lv_iconst (v := 2) hx hb dX12_lemma_16 (by decide) ?_
        have hPc := hP.sub (ws' := [((a 0), .inr (12, zMo a (upd zI0 0 0)))]) [1] rfl
        have hDc := hD.sub (ws' := [((a 0), .inr (12, zMo a (upd zI0 0 0)))]) [1] (by decide) rfl
        have hKc := hK.sub (tys' := []) [] rfl
        have hFc := va_free (wc := [((a 0), .inr (12, zMo a (upd zI0 0 0)))]) hD hS hA [1] rfl
        refine va_calli (va_runV (As := [.int 1, .int 2]) (rest := []) ⟨hx, hb, hml, hown, ht⟩ (k_X12_no l _ D a (upd zI0 0 0) 1 2 (by decide)) (cwV 2 ht (zG_V zw_30 zw_31 zw_32 zw_2 zw_33) rfl rfl rfl (by decide +kernel) ⟨Nat.le_of_ble_eq_true rfl, Nat.le_of_ble_eq_true rfl⟩) (zM_V (va_recv hK hP (ci := 12) (q0 := 1) rfl rfl) hPc hKc hDc) rfl rfl hl.1 rfl (lv_room (Nat.le_of_ble_eq_true rfl)) dX12_lemma_17 ⟨Nat.le_of_ble_eq_true rfl, Nat.le_of_ble_eq_true rfl⟩) hS (fun q _ h => hFc q h) hFc (fun r_5 u_5 t H1 locs ht0 hvm hw_5 hB hz1 hk1 hS => ?_)
        obtain ⟨rfl, rfl⟩ := hw_5.2 (by decide)
        obtain ⟨hP1, hK1, hD1⟩ := hB
        rw [ht0] at hP1
        have hK1 := va_K.moved hvm.symm hK1
        obtain ⟨hP, hD⟩ := va_join (wr := [((a 1), .inl (cI, 6792, .inl zI0))]) (w1 := [((a 0), .inr (12, zMo a (upd zI0 0 0)))]) hP hD [1] [0] rfl rfl (by decide) (by decide) hk1 hFc hP1 hD1
        generalize H1 = H at hP hS ⊢
        have hP : va_P D vwCl [((a 1), .inl (cI, 6792, .inl zI0)), ((a 0), .inr (12, zMo a (upd zI0 0 0)))] H := hP
        have hD : va_D A [((a 1), .inl (cI, 6792, .inl zI0)), ((a 0), .inr (12, zMo a (upd zI0 0 0)))] := hD
        refine lv_if_ne (tgt := 38) hx hb dX12_lemma_20 (by decide) (fun c_6 => ?_) (fun c_6 => ?_)
        · skip
          exact absurd c_6 (by decide)
        · skip
          refine lv_aload_n hx hb dX12_lemma_23 rfl (lv_at hl 0 rfl) ?_
          refine lv_aload_n hx hb dX12_lemma_24 rfl (lv_at hl 0 rfl) ?_
          refine lv_iload_n hx hb dX12_lemma_25 rfl (lv_at hl 1 rfl) ?_
          refine lv_iload_n hx hb dX12_lemma_26 rfl (lv_at hl 2 rfl) ?_
          refine lv_iconst (v := 0) hx hb dX12_lemma_27 (by decide) ?_
          refine vp_callSi (va_runV (As := [.int p0, .int p1, .int 0]) (rest := [.ref (a 0)]) ⟨hx, hb, hml, hown, ht⟩ (k_X12_canProve l D a (upd zI0 0 0) cI p0 p1 0 h_4) (cwV 3 ht (zG_V zw_80 zw_81 zw_82 zw_2 zw_83) rfl rfl rfl (by decide +kernel) ⟨Nat.le_of_ble_eq_true rfl, Nat.le_of_ble_eq_true rfl⟩) (zR_V (va_recv hK hP (ci := 12) (q0 := 1) rfl rfl) (hP.sub (ws' := [((a 0), .inr (12, zMo a (upd zI0 0 0))), ((a 1), .inl (cI, 6792, .inl zI0))]) [1, 0] rfl) hK) rfl rfl hl.1 rfl (lv_room (Nat.le_of_ble_eq_true rfl)) dX12_lemma_28 ⟨Nat.le_of_ble_eq_true rfl, Nat.le_of_ble_eq_true rfl⟩).run (fun r_7 hw_7 => ?_)
          obtain rfl : r_7 = 0 := hw_7
          refine lv_iconst (v := 3) hx hb dX12_lemma_31 (by decide) ?_
          have hPc := hP.sub (ws' := [((a 0), .inr (12, zMo a (upd zI0 0 0)))]) [1] rfl
          have hDc := hD.sub (ws' := [((a 0), .inr (12, zMo a (upd zI0 0 0)))]) [1] (by decide) rfl
          have hKc := hK.sub (tys' := []) [] rfl
          have hFc := va_free (wc := [((a 0), .inr (12, zMo a (upd zI0 0 0)))]) hD hS hA [1] rfl
          refine va_calli (va_runV (As := [.int 0, .int 3]) (rest := []) ⟨hx, hb, hml, hown, ht⟩ (k_X12_no l _ D a (upd zI0 0 0) 0 3 (by decide)) (cwV 2 ht (zG_V zw_30 zw_31 zw_32 zw_2 zw_33) rfl rfl rfl (by decide +kernel) ⟨Nat.le_of_ble_eq_true rfl, Nat.le_of_ble_eq_true rfl⟩) (zM_V (va_recv hK hP (ci := 12) (q0 := 1) rfl rfl) hPc hKc hDc) rfl rfl hl.1 rfl (lv_room (Nat.le_of_ble_eq_true rfl)) dX12_lemma_32 ⟨Nat.le_of_ble_eq_true rfl, Nat.le_of_ble_eq_true rfl⟩) hS (fun q _ h => hFc q h) hFc (fun r_8 u_8 t H1 locs ht0 hvm hw_8 hB hz1 hk1 hS => ?_)
          obtain ⟨rfl, rfl⟩ := hw_8.1 rfl
          obtain ⟨hP1, hK1, hD1⟩ := hB
          rw [ht0] at hP1
          have hK1 := va_K.moved hvm.symm hK1
          obtain ⟨hP, hD⟩ := va_join (wr := [((a 1), .inl (cI, 6792, .inl zI0))]) (w1 := [((a 0), .inr (12, zMo a (upd zI0 0 3)))]) hP hD [1] [0] rfl rfl (by decide) (by decide) hk1 hFc hP1 hD1
          generalize H1 = H at hP hS ⊢
          have hP : va_P D vwCl [((a 1), .inl (cI, 6792, .inl zI0)), ((a 0), .inr (12, zMo a (upd zI0 0 3)))] H := hP
          have hD : va_D A [((a 1), .inl (cI, 6792, .inl zI0)), ((a 0), .inr (12, zMo a (upd zI0 0 3)))] := hD
          refine lv_if_eq (tgt := 40) hx hb dX12_lemma_35 (by decide) (fun c_9 => ?_) (fun c_9 => ?_)
          · skip
            exact absurd c_9 (by decide)
          · skip
            refine lv_iconst (v := 0) hx hb dX12_lemma_38 (by decide) ?_
            have hP9 := hP.sub (ws' := [((a 0), .inr (12, zMo a (upd zI0 0 3)))]) [1] rfl
            have hD9 := hD.sub (ws' := [((a 0), .inr (12, zMo a (upd zI0 0 3)))]) [1] (by decide) rfl
            have hK9 := hK.sub (tys' := []) [] rfl
            refine W.widen (k := 0) (n := 0) (Nat.le_of_ble_eq_true rfl) (Nat.le_of_ble_eq_true rfl) ?_
            exact W.iret (v := 0) hx hb hr (fun t ht0 hW => ⟨⟨0, upd zI0 0 3, rfl, (show zS_lemma p0 p1 3 0 from (.inr (.inr ⟨rfl, by omega⟩))), (zE_of hP9 hK9 hD9 ht0 hW)⟩, hS.F ht0⟩) hS.2.2 dX12_lemma_39
      · skip
        refine lv_iconst (v := 2) hx hb dX12_lemma_16 (by decide) ?_
        have hPc := hP.sub (ws' := [((a 0), .inr (12, zMo a (upd zI0 0 0)))]) [1] rfl
        have hDc := hD.sub (ws' := [((a 0), .inr (12, zMo a (upd zI0 0 0)))]) [1] (by decide) rfl
        have hKc := hK.sub (tys' := []) [] rfl
        have hFc := va_free (wc := [((a 0), .inr (12, zMo a (upd zI0 0 0)))]) hD hS hA [1] rfl
        refine va_calli (va_runV (As := [.int 0, .int 2]) (rest := []) ⟨hx, hb, hml, hown, ht⟩ (k_X12_no l _ D a (upd zI0 0 0) 0 2 (by decide)) (cwV 2 ht (zG_V zw_30 zw_31 zw_32 zw_2 zw_33) rfl rfl rfl (by decide +kernel) ⟨Nat.le_of_ble_eq_true rfl, Nat.le_of_ble_eq_true rfl⟩) (zM_V (va_recv hK hP (ci := 12) (q0 := 1) rfl rfl) hPc hKc hDc) rfl rfl hl.1 rfl (lv_room (Nat.le_of_ble_eq_true rfl)) dX12_lemma_17 ⟨Nat.le_of_ble_eq_true rfl, Nat.le_of_ble_eq_true rfl⟩) hS (fun q _ h => hFc q h) hFc (fun r_10 u_10 t H1 locs ht0 hvm hw_10 hB hz1 hk1 hS => ?_)
        obtain ⟨rfl, rfl⟩ := hw_10.1 rfl
        obtain ⟨hP1, hK1, hD1⟩ := hB
        rw [ht0] at hP1
        have hK1 := va_K.moved hvm.symm hK1
        obtain ⟨hP, hD⟩ := va_join (wr := [((a 1), .inl (cI, 6792, .inl zI0))]) (w1 := [((a 0), .inr (12, zMo a (upd zI0 0 2)))]) hP hD [1] [0] rfl rfl (by decide) (by decide) hk1 hFc hP1 hD1
        generalize H1 = H at hP hS ⊢
        have hP : va_P D vwCl [((a 1), .inl (cI, 6792, .inl zI0)), ((a 0), .inr (12, zMo a (upd zI0 0 2)))] H := hP
        have hD : va_D A [((a 1), .inl (cI, 6792, .inl zI0)), ((a 0), .inr (12, zMo a (upd zI0 0 2)))] := hD
        refine lv_if_ne (tgt := 38) hx hb dX12_lemma_20 (by decide) (fun c_11 => ?_) (fun c_11 => ?_)
        · skip
          refine lv_iconst (v := 0) hx hb dX12_lemma_38 (by decide) ?_
          have hP9 := hP.sub (ws' := [((a 0), .inr (12, zMo a (upd zI0 0 2)))]) [1] rfl
          have hD9 := hD.sub (ws' := [((a 0), .inr (12, zMo a (upd zI0 0 2)))]) [1] (by decide) rfl
          have hK9 := hK.sub (tys' := []) [] rfl
          refine W.widen (k := 0) (n := 0) (Nat.le_of_ble_eq_true rfl) (Nat.le_of_ble_eq_true rfl) ?_
          exact W.iret (v := 0) hx hb hr (fun t ht0 hW => ⟨⟨0, upd zI0 0 2, rfl, (show zS_lemma p0 p1 2 0 from (.inr (.inl ⟨rfl, by omega⟩))), (zE_of hP9 hK9 hD9 ht0 hW)⟩, hS.F ht0⟩) hS.2.2 dX12_lemma_39
        · skip
          exact absurd c_11 (by decide)
  · skip
    have hPc := hP.sub (ws' := [((a 0), .inr (12, zMo a zI0))]) [0] rfl
    have hDc := hD.sub (ws' := [((a 0), .inr (12, zMo a zI0))]) [0] (by decide) rfl
    have hKc := hK.sub (tys' := []) [] rfl
    have hFc := va_free (wc := [((a 0), .inr (12, zMo a zI0))]) hD hS hA [0] rfl
    refine va_calli (va_runV (As := [.int 0]) (rest := []) ⟨hx, hb, hml, hown, ht⟩ (k_X12_lacks l _ D a zI0 0 (by decide)) (cwV 1 ht (zG_V zw_62 zw_63 zw_64 zw_2 zw_65) rfl rfl rfl (by decide +kernel) ⟨Nat.le_of_ble_eq_true rfl, Nat.le_of_ble_eq_true rfl⟩) (zM_V (va_recv hK hP (ci := 12) (q0 := 0) rfl rfl) hPc hKc hDc) rfl rfl hl.1 rfl (lv_room (Nat.le_of_ble_eq_true rfl)) dX12_lemma_5 ⟨Nat.le_of_ble_eq_true rfl, Nat.le_of_ble_eq_true rfl⟩) hS (fun q _ h => hFc q h) hFc (fun r_12 u_12 t H1 locs ht0 hvm hw_12 hB hz1 hk1 hS => ?_)
    obtain ⟨rfl, rfl⟩ := hw_12.1 rfl
    obtain ⟨hP1, hK1, hD1⟩ := hB
    rw [ht0] at hP1
    have hK1 := va_K.moved hvm.symm hK1
    obtain ⟨hP, hD⟩ := va_join (wr := [((a 1), .inl (cI, 6792, .inl zI0))]) (w1 := [((a 0), .inr (12, zMo a (upd zI0 0 1)))]) hP hD [0] [1] rfl rfl (by decide) (by decide) hk1 hFc hP1 hD1
    generalize H1 = H at hP hS ⊢
    have hP : va_P D vwCl [((a 1), .inl (cI, 6792, .inl zI0)), ((a 0), .inr (12, zMo a (upd zI0 0 1)))] H := hP
    have hD : va_D A [((a 1), .inl (cI, 6792, .inl zI0)), ((a 0), .inr (12, zMo a (upd zI0 0 1)))] := hD
    refine lv_if_ne (tgt := 38) hx hb dX12_lemma_8 (by decide) (fun c_13 => ?_) (fun c_13 => ?_)
    · skip
      refine lv_iconst (v := 0) hx hb dX12_lemma_38 (by decide) ?_
      have hP9 := hP.sub (ws' := [((a 0), .inr (12, zMo a (upd zI0 0 1)))]) [1] rfl
      have hD9 := hD.sub (ws' := [((a 0), .inr (12, zMo a (upd zI0 0 1)))]) [1] (by decide) rfl
      have hK9 := hK.sub (tys' := []) [] rfl
      refine W.widen (k := 0) (n := 0) (Nat.le_of_ble_eq_true rfl) (Nat.le_of_ble_eq_true rfl) ?_
      exact W.iret (v := 0) hx hb hr (fun t ht0 hW => ⟨⟨0, upd zI0 0 1, rfl, (show zS_lemma p0 p1 1 0 from (.inl ⟨rfl, by omega⟩)), (zE_of hP9 hK9 hD9 ht0 hW)⟩, hS.F ht0⟩) hS.2.2 dX12_lemma_39
    · skip
      exact absurd c_13 (by decide)
set_option maxHeartbeats 4000000 in
set_option maxRecDepth 100000 in
theorem k_X12_cases (l : Launch) (sz : Nat) (D : va_G) (a : Nat → Nat) (cI : ClassId) (p0 p1 p2 : Int32) : Met l yX12_cases (.code yX12_cases cX12_cases 8 (some .int) :: zT) ({ frames := 2, cells := 0, slots := 0, locals := 43 }) (va_Pc [.ref (a 0), .int p0, .int p1, .int p2] (zM D [((a 0), .inr (12, zMo a zI0)), ((a 1), .inl (cI, 6792, .inl zI0))] [(cI, .int)] sz)) (va_Qi (fun (r : Int32) (u : Nat → Int32) => zS_cases p0 p1 p2 (u 0) r) (fun u t => zE D [(a 0, .inr (12, zMo a u))] [] (va_A [((a 0), .inr (12, zMo a zI0)), ((a 1), .inl (cI, 6792, .inl zI0))] sz) t) (va_A [((a 0), .inr (12, zMo a zI0)), ((a 1), .inl (cI, 6792, .inl zI0))] sz)) 0 0 (va_A [((a 0), .inr (12, zMo a zI0)), ((a 1), .inl (cI, 6792, .inl zI0))] sz) := by
  refine Met.ofW (cc := cX12_cases) (maxL := 8) (ret := (some .int)) (by decide) rfl ?_
  intro p e s m args below meth c s₁ B hml hv
  obtain ⟨rfl, hsz, hP, hK, hD0⟩ := hv
  have hx := B.exec
  have hb := B.bytes
  have hr := B.returns
  have hts := atoms_spec (ws := (.code yX12_cases cX12_cases 8 (some .int) :: zT)) B.pre
  have ht : ∀ w ∈ zT, w.before _ s = true := fun w h => hts w (List.mem_cons_of_mem _ h)
  have hown : s.vm.findClass RX12 = some m.cls := findClass_of_methodNamed B.named
  have hlocks := B.notSynchronized
  subst hsz
  have hD := hD0.self (sz := s.heap.size)
  generalize hAe : va_A [((a 0), .inr (12, zMo a zI0)), ((a 1), .inl (cI, 6792, .inl zI0))] s.heap.size = A at hD ⊢
  have hA : ∀ q : Nat, s.heap.size ≤ q → A q := fun q h => by rw [← hAe]; exact Or.inr h
  have hS : va_S A s.heap s.heap [] := va_S.rf
  have hP : va_P D vwCl [((a 0), .inr (12, zMo a zI0)), ((a 1), .inl (cI, 6792, .inl zI0))] s.heap := hP
  have hl := lv_entry ([.ref (a 0), .int p0, .int p1, .int p2]) (n := 8) (Nat.le_of_ble_eq_true rfl)
  rw [lg_entry_eq]
  generalize (lg_sl ([.ref (a 0), .int p0, .int p1, .int p2]) ++ List.replicate (8 - (lg_sl ([.ref (a 0), .int p0, .int p1, .int p2])).length) Slot.unset).toArray = ls at hl ⊢
  have hl : lv_has ls 8 [(0, .ref (a 0)), (1, .int p0), (2, .int p1), (3, .int p2)] := hl
  skip
  refine lv_aload_n hx hb dX12_cases_0 rfl (lv_at hl 0 rfl) ?_
  refine lv_iload_n hx hb dX12_cases_1 rfl (lv_at hl 2 rfl) ?_
  refine vp_callSi (va_runV (As := [.int p1]) (rest := []) ⟨hx, hb, hml, hown, ht⟩ (k_X12_atLaw l D a zI0 cI p1) (cwV 1 ht (zG_V zw_73 zw_74 zw_75 zw_2 zw_76) rfl rfl rfl (by decide +kernel) ⟨Nat.le_of_ble_eq_true rfl, Nat.le_of_ble_eq_true rfl⟩) (zR_V (va_recv hK hP (ci := 12) (q0 := 0) rfl rfl) hP hK) rfl rfl hl.1 rfl (lv_room (Nat.le_of_ble_eq_true rfl)) dX12_cases_2 ⟨Nat.le_of_ble_eq_true rfl, Nat.le_of_ble_eq_true rfl⟩).run (fun r_1 hw_1 => ?_)
  obtain rfl : r_1 = (-1) := hw_1
  refine lv_istore (lv' := [(4, .int (-1)), (0, .ref (a 0)), (1, .int p0), (2, .int p1), (3, .int p2)]) hx hb dX12_cases_5 hl (by decide) rfl (fun ls hl => ?_)
  refine lv_aload_n hx hb dX12_cases_7 rfl (lv_at hl 1 rfl) ?_
  refine lv_iload_n hx hb dX12_cases_8 rfl (lv_at hl 4 rfl) ?_
  refine vp_callSi (va_runV (As := [.int p2]) (rest := []) ⟨hx, hb, hml, hown, ht⟩ (k_X12_atLaw l D a zI0 cI p2) (cwV 1 ht (zG_V zw_73 zw_74 zw_75 zw_2 zw_76) rfl rfl rfl (by decide +kernel) ⟨Nat.le_of_ble_eq_true rfl, Nat.le_of_ble_eq_true rfl⟩) (zR_V (va_recv hK hP (ci := 12) (q0 := 0) rfl rfl) hP hK) rfl rfl hl.1 rfl (lv_room (Nat.le_of_ble_eq_true rfl)) dX12_cases_9 ⟨Nat.le_of_ble_eq_true rfl, Nat.le_of_ble_eq_true rfl⟩).run (fun r_2 hw_2 => ?_)
  obtain rfl : r_2 = (-1) := hw_2
  refine lv_istore (lv' := [(5, .int (-1)), (4, .int (-1)), (0, .ref (a 0)), (1, .int p0), (2, .int p1), (3, .int p2)]) hx hb dX12_cases_12 hl (by decide) rfl (fun ls hl => ?_)
  refine lv_aload_n hx hb dX12_cases_14 rfl (lv_at hl 2 rfl) ?_
  refine lv_iload_n hx hb dX12_cases_15 rfl (lv_at hl 3 rfl) ?_
  refine vp_callSi (va_runS (As := [.int p0]) (rest := [.ref (a 0)]) ⟨hx, hb, hml, hown, ht⟩ (k_X12_isName l p0) (va_cwS 1 ht (zG_S zw_66 zw_67 zw_2 zw_68) rfl rfl rfl (by decide +kernel) ⟨Nat.le_of_ble_eq_true rfl, Nat.le_of_ble_eq_true rfl⟩) zN_S rfl rfl hl.1 rfl (lv_room (Nat.le_of_ble_eq_true rfl)) dX12_cases_16 ⟨Nat.le_of_ble_eq_true rfl, Nat.le_of_ble_eq_true rfl⟩).run (fun r_3 hw_3 => ?_)
  rcases hw_3 with ⟨rfl, h_3⟩ | ⟨rfl, h_3⟩
  · skip
    have hPc := hP.sub (ws' := [((a 0), .inr (12, zMo a zI0))]) [0] rfl
    have hDc := hD.sub (ws' := [((a 0), .inr (12, zMo a zI0))]) [0] (by decide) rfl
    have hKc := hK.sub (tys' := []) [] rfl
    have hFc := va_free (wc := [((a 0), .inr (12, zMo a zI0))]) hD hS hA [0] rfl
    refine va_calli (va_runV (As := [.int 1]) (rest := []) ⟨hx, hb, hml, hown, ht⟩ (k_X12_lacks l _ D a zI0 1 (by decide)) (cwV 1 ht (zG_V zw_62 zw_63 zw_64 zw_2 zw_65) rfl rfl rfl (by decide +kernel) ⟨Nat.le_of_ble_eq_true rfl, Nat.le_of_ble_eq_true rfl⟩) (zM_V (va_recv hK hP (ci := 12) (q0 := 0) rfl rfl) hPc hKc hDc) rfl rfl hl.1 rfl (lv_room (Nat.le_of_ble_eq_true rfl)) dX12_cases_19 ⟨Nat.le_of_ble_eq_true rfl, Nat.le_of_ble_eq_true rfl⟩) hS (fun q _ h => hFc q h) hFc (fun r_4 u_4 t H1 locs ht0 hvm hw_4 hB hz1 hk1 hS => ?_)
    obtain ⟨rfl, rfl⟩ := hw_4.2 (by decide)
    obtain ⟨hP1, hK1, hD1⟩ := hB
    rw [ht0] at hP1
    have hK1 := va_K.moved hvm.symm hK1
    obtain ⟨hP, hD⟩ := va_join (wr := [((a 1), .inl (cI, 6792, .inl zI0))]) (w1 := [((a 0), .inr (12, zMo a (upd zI0 0 0)))]) hP hD [0] [1] rfl rfl (by decide) (by decide) hk1 hFc hP1 hD1
    generalize H1 = H at hP hS ⊢
    have hP : va_P D vwCl [((a 1), .inl (cI, 6792, .inl zI0)), ((a 0), .inr (12, zMo a (upd zI0 0 0)))] H := hP
    have hD : va_D A [((a 1), .inl (cI, 6792, .inl zI0)), ((a 0), .inr (12, zMo a (upd zI0 0 0)))] := hD
    refine lv_if_ne (tgt := 96) hx hb dX12_cases_22 (by decide) (fun c_5 => ?_) (fun c_5 => ?_)
    · skip
      exact absurd c_5 (by decide)
    · skip
      refine lv_aload_n hx hb dX12_cases_25 rfl (lv_at hl 2 rfl) ?_
      refine lv_iload hx hb dX12_cases_26 (lv_at hl 1 rfl) ?_
      refine lv_iconst (v := (-1)) hx hb dX12_cases_28 (by decide) ?_
      refine lv_icmp_eq (tgt := 42) hx hb dX12_cases_29 (by decide) (fun c_6 => ?_) (fun c_6 => ?_)
      · skip
        refine lv_iconst (v := 0) hx hb dX12_cases_42 (by decide) ?_
        refine lv_iconst (v := 2) hx hb dX12_cases_43 (by decide) ?_
        have hPc := hP.sub (ws' := [((a 0), .inr (12, zMo a (upd zI0 0 0)))]) [1] rfl
        have hDc := hD.sub (ws' := [((a 0), .inr (12, zMo a (upd zI0 0 0)))]) [1] (by decide) rfl
        have hKc := hK.sub (tys' := []) [] rfl
        have hFc := va_free (wc := [((a 0), .inr (12, zMo a (upd zI0 0 0)))]) hD hS hA [1] rfl
        refine va_calli (va_runV (As := [.int 0, .int 2]) (rest := []) ⟨hx, hb, hml, hown, ht⟩ (k_X12_no l _ D a (upd zI0 0 0) 0 2 (by decide)) (cwV 2 ht (zG_V zw_30 zw_31 zw_32 zw_2 zw_33) rfl rfl rfl (by decide +kernel) ⟨Nat.le_of_ble_eq_true rfl, Nat.le_of_ble_eq_true rfl⟩) (zM_V (va_recv hK hP (ci := 12) (q0 := 1) rfl rfl) hPc hKc hDc) rfl rfl hl.1 rfl (lv_room (Nat.le_of_ble_eq_true rfl)) dX12_cases_44 ⟨Nat.le_of_ble_eq_true rfl, Nat.le_of_ble_eq_true rfl⟩) hS (fun q _ h => hFc q h) hFc (fun r_7 u_7 t H1 locs ht0 hvm hw_7 hB hz1 hk1 hS => ?_)
        obtain ⟨rfl, rfl⟩ := hw_7.1 rfl
        obtain ⟨hP1, hK1, hD1⟩ := hB
        rw [ht0] at hP1
        have hK1 := va_K.moved hvm.symm hK1
        obtain ⟨hP, hD⟩ := va_join (wr := [((a 1), .inl (cI, 6792, .inl zI0))]) (w1 := [((a 0), .inr (12, zMo a (upd zI0 0 2)))]) hP hD [1] [0] rfl rfl (by decide) (by decide) hk1 hFc hP1 hD1
        generalize H1 = H at hP hS ⊢
        have hP : va_P D vwCl [((a 1), .inl (cI, 6792, .inl zI0)), ((a 0), .inr (12, zMo a (upd zI0 0 2)))] H := hP
        have hD : va_D A [((a 1), .inl (cI, 6792, .inl zI0)), ((a 0), .inr (12, zMo a (upd zI0 0 2)))] := hD
        refine lv_if_ne (tgt := 96) hx hb dX12_cases_47 (by decide) (fun c_8 => ?_) (fun c_8 => ?_)
        · skip
          refine lv_iconst (v := 0) hx hb dX12_cases_96 (by decide) ?_
          have hP9 := hP.sub (ws' := [((a 0), .inr (12, zMo a (upd zI0 0 2)))]) [1] rfl
          have hD9 := hD.sub (ws' := [((a 0), .inr (12, zMo a (upd zI0 0 2)))]) [1] (by decide) rfl
          have hK9 := hK.sub (tys' := []) [] rfl
          refine W.widen (k := 0) (n := 0) (Nat.le_of_ble_eq_true rfl) (Nat.le_of_ble_eq_true rfl) ?_
          exact W.iret (v := 0) hx hb hr (fun t ht0 hW => ⟨⟨0, upd zI0 0 2, rfl, (show zS_cases p0 p1 p2 2 0 from (.inr ⟨rfl, by omega⟩)), (zE_of hP9 hK9 hD9 ht0 hW)⟩, hS.F ht0⟩) hS.2.2 dX12_cases_97
        · skip
          exact absurd c_8 (by decide)
      · skip
        exact absurd c_6 (by decide)
  · skip
    have hPc := hP.sub (ws' := [((a 0), .inr (12, zMo a zI0))]) [0] rfl
    have hDc := hD.sub (ws' := [((a 0), .inr (12, zMo a zI0))]) [0] (by decide) rfl
    have hKc := hK.sub (tys' := []) [] rfl
    have hFc := va_free (wc := [((a 0), .inr (12, zMo a zI0))]) hD hS hA [0] rfl
    refine va_calli (va_runV (As := [.int 0]) (rest := []) ⟨hx, hb, hml, hown, ht⟩ (k_X12_lacks l _ D a zI0 0 (by decide)) (cwV 1 ht (zG_V zw_62 zw_63 zw_64 zw_2 zw_65) rfl rfl rfl (by decide +kernel) ⟨Nat.le_of_ble_eq_true rfl, Nat.le_of_ble_eq_true rfl⟩) (zM_V (va_recv hK hP (ci := 12) (q0 := 0) rfl rfl) hPc hKc hDc) rfl rfl hl.1 rfl (lv_room (Nat.le_of_ble_eq_true rfl)) dX12_cases_19 ⟨Nat.le_of_ble_eq_true rfl, Nat.le_of_ble_eq_true rfl⟩) hS (fun q _ h => hFc q h) hFc (fun r_9 u_9 t H1 locs ht0 hvm hw_9 hB hz1 hk1 hS => ?_)
    obtain ⟨rfl, rfl⟩ := hw_9.1 rfl
    obtain ⟨hP1, hK1, hD1⟩ := hB
    rw [ht0] at hP1
    have hK1 := va_K.moved hvm.symm hK1
    obtain ⟨hP, hD⟩ := va_join (wr := [((a 1), .inl (cI, 6792, .inl zI0))]) (w1 := [((a 0), .inr (12, zMo a (upd zI0 0 1)))]) hP hD [0] [1] rfl rfl (by decide) (by decide) hk1 hFc hP1 hD1
    generalize H1 = H at hP hS ⊢
    have hP : va_P D vwCl [((a 1), .inl (cI, 6792, .inl zI0)), ((a 0), .inr (12, zMo a (upd zI0 0 1)))] H := hP
    have hD : va_D A [((a 1), .inl (cI, 6792, .inl zI0)), ((a 0), .inr (12, zMo a (upd zI0 0 1)))] := hD
    refine lv_if_ne (tgt := 96) hx hb dX12_cases_22 (by decide) (fun c_10 => ?_) (fun c_10 => ?_)
    · skip
      refine lv_iconst (v := 0) hx hb dX12_cases_96 (by decide) ?_
      have hP9 := hP.sub (ws' := [((a 0), .inr (12, zMo a (upd zI0 0 1)))]) [1] rfl
      have hD9 := hD.sub (ws' := [((a 0), .inr (12, zMo a (upd zI0 0 1)))]) [1] (by decide) rfl
      have hK9 := hK.sub (tys' := []) [] rfl
      refine W.widen (k := 0) (n := 0) (Nat.le_of_ble_eq_true rfl) (Nat.le_of_ble_eq_true rfl) ?_
      exact W.iret (v := 0) hx hb hr (fun t ht0 hW => ⟨⟨0, upd zI0 0 1, rfl, (show zS_cases p0 p1 p2 1 0 from (.inl ⟨rfl, by omega⟩)), (zE_of hP9 hK9 hD9 ht0 hW)⟩, hS.F ht0⟩) hS.2.2 dX12_cases_97
    · skip
      exact absurd c_10 (by decide)
set_option maxHeartbeats 4000000 in
set_option maxRecDepth 100000 in
theorem k_X12_begin (l : Launch) (sz : Nat) (D : va_G) (a : Nat → Nat) (cI : ClassId) (p0 p1 : Int32) : Met l yX12_begin (.code yX12_begin cX12_begin 4 (some .int) :: zT) ({ frames := 2, cells := 0, slots := 0, locals := 43 }) (va_Pc [.ref (a 0), .int p0, .int p1] (zM D [((a 0), .inr (12, zMo a zI0)), ((a 1), .inl (cI, 6792, .inl zI0))] [(cI, .int)] sz)) (va_Qi (fun (r : Int32) (u : Nat → Int32) => zS_begin p0 p1 (u 0) r) (fun u t => zE D [(a 0, .inr (12, zMo a u))] [] (va_A [((a 0), .inr (12, zMo a zI0)), ((a 1), .inl (cI, 6792, .inl zI0))] sz) t) (va_A [((a 0), .inr (12, zMo a zI0)), ((a 1), .inl (cI, 6792, .inl zI0))] sz)) 0 0 (va_A [((a 0), .inr (12, zMo a zI0)), ((a 1), .inl (cI, 6792, .inl zI0))] sz) := by
  refine Met.ofW (cc := cX12_begin) (maxL := 4) (ret := (some .int)) (by decide) rfl ?_
  intro p e s m args below meth c s₁ B hml hv
  obtain ⟨rfl, hsz, hP, hK, hD0⟩ := hv
  have hx := B.exec
  have hb := B.bytes
  have hr := B.returns
  have hts := atoms_spec (ws := (.code yX12_begin cX12_begin 4 (some .int) :: zT)) B.pre
  have ht : ∀ w ∈ zT, w.before _ s = true := fun w h => hts w (List.mem_cons_of_mem _ h)
  have hown : s.vm.findClass RX12 = some m.cls := findClass_of_methodNamed B.named
  have hlocks := B.notSynchronized
  subst hsz
  have hD := hD0.self (sz := s.heap.size)
  generalize hAe : va_A [((a 0), .inr (12, zMo a zI0)), ((a 1), .inl (cI, 6792, .inl zI0))] s.heap.size = A at hD ⊢
  have hA : ∀ q : Nat, s.heap.size ≤ q → A q := fun q h => by rw [← hAe]; exact Or.inr h
  have hS : va_S A s.heap s.heap [] := va_S.rf
  have hP : va_P D vwCl [((a 0), .inr (12, zMo a zI0)), ((a 1), .inl (cI, 6792, .inl zI0))] s.heap := hP
  have hl := lv_entry ([.ref (a 0), .int p0, .int p1]) (n := 4) (Nat.le_of_ble_eq_true rfl)
  rw [lg_entry_eq]
  generalize (lg_sl ([.ref (a 0), .int p0, .int p1]) ++ List.replicate (4 - (lg_sl ([.ref (a 0), .int p0, .int p1])).length) Slot.unset).toArray = ls at hl ⊢
  have hl : lv_has ls 4 [(0, .ref (a 0)), (1, .int p0), (2, .int p1)] := hl
  skip
  refine lv_aload_n hx hb dX12_begin_0 rfl (lv_at hl 0 rfl) ?_
  refine lv_iload_n hx hb dX12_begin_1 rfl (lv_at hl 1 rfl) ?_
  refine vp_callSi (va_runS (As := [.int p0]) (rest := [.ref (a 0)]) ⟨hx, hb, hml, hown, ht⟩ (k_X12_isChain l p0) (va_cwS 1 ht (zG_S zw_77 zw_78 zw_2 zw_79) rfl rfl rfl (by decide +kernel) ⟨Nat.le_of_ble_eq_true rfl, Nat.le_of_ble_eq_true rfl⟩) zN_S rfl rfl hl.1 rfl (lv_room (Nat.le_of_ble_eq_true rfl)) dX12_begin_2 ⟨Nat.le_of_ble_eq_true rfl, Nat.le_of_ble_eq_true rfl⟩).run (fun r_1 hw_1 => ?_)
  rcases hw_1 with ⟨rfl, h_1⟩ | ⟨rfl, h_1⟩
  · skip
    refine lv_if_eq (tgt := 19) hx hb dX12_begin_5 (by decide) (fun c_2 => ?_) (fun c_2 => ?_)
    · skip
      exact absurd c_2 (by decide)
    · skip
      refine lv_iload_n hx hb dX12_begin_8 rfl (lv_at hl 2 rfl) ?_
      refine vp_callSi (va_runS (As := [.int p1]) (rest := [.ref (a 0)]) ⟨hx, hb, hml, hown, ht⟩ (k_X12_isRegister l p1) (va_cwS 1 ht (zG_S zw_59 zw_60 zw_2 zw_61) rfl rfl rfl (by decide +kernel) ⟨Nat.le_of_ble_eq_true rfl, Nat.le_of_ble_eq_true rfl⟩) zN_S rfl rfl hl.1 rfl (lv_room (Nat.le_of_ble_eq_true rfl)) dX12_begin_9 ⟨Nat.le_of_ble_eq_true rfl, Nat.le_of_ble_eq_true rfl⟩).run (fun r_3 hw_3 => ?_)
      rcases hw_3 with ⟨rfl, h_3⟩ | ⟨rfl, h_3⟩
      · skip
        refine lv_if_eq (tgt := 19) hx hb dX12_begin_12 (by decide) (fun c_4 => ?_) (fun c_4 => ?_)
        · skip
          exact absurd c_4 (by decide)
        · skip
          refine lv_iconst (v := 1) hx hb dX12_begin_15 (by decide) ?_
          refine lv_goto (tgt := 20) hx hb dX12_begin_16 (by decide) ?_
          have hPc := hP.sub (ws' := [((a 0), .inr (12, zMo a zI0))]) [0] rfl
          have hDc := hD.sub (ws' := [((a 0), .inr (12, zMo a zI0))]) [0] (by decide) rfl
          have hKc := hK.sub (tys' := []) [] rfl
          have hFc := va_free (wc := [((a 0), .inr (12, zMo a zI0))]) hD hS hA [0] rfl
          refine va_calli (va_runV (As := [.int 1]) (rest := []) ⟨hx, hb, hml, hown, ht⟩ (k_X12_lacks l _ D a zI0 1 (by decide)) (cwV 1 ht (zG_V zw_62 zw_63 zw_64 zw_2 zw_65) rfl rfl rfl (by decide +kernel) ⟨Nat.le_of_ble_eq_true rfl, Nat.le_of_ble_eq_true rfl⟩) (zM_V (va_recv hK hP (ci := 12) (q0 := 0) rfl rfl) hPc hKc hDc) rfl rfl hl.1 rfl (lv_room (Nat.le_of_ble_eq_true rfl)) dX12_begin_20 ⟨Nat.le_of_ble_eq_true rfl, Nat.le_of_ble_eq_true rfl⟩) hS (fun q _ h => hFc q h) hFc (fun r_5 u_5 t H1 locs ht0 hvm hw_5 hB hz1 hk1 hS => ?_)
          obtain ⟨rfl, rfl⟩ := hw_5.2 (by decide)
          obtain ⟨hP1, hK1, hD1⟩ := hB
          rw [ht0] at hP1
          have hK1 := va_K.moved hvm.symm hK1
          obtain ⟨hP, hD⟩ := va_join (wr := [((a 1), .inl (cI, 6792, .inl zI0))]) (w1 := [((a 0), .inr (12, zMo a (upd zI0 0 0)))]) hP hD [0] [1] rfl rfl (by decide) (by decide) hk1 hFc hP1 hD1
          generalize H1 = H at hP hS ⊢
          have hP : va_P D vwCl [((a 1), .inl (cI, 6792, .inl zI0)), ((a 0), .inr (12, zMo a (upd zI0 0 0)))] H := hP
          have hD : va_D A [((a 1), .inl (cI, 6792, .inl zI0)), ((a 0), .inr (12, zMo a (upd zI0 0 0)))] := hD
          refine lv_if_ne (tgt := 39) hx hb dX12_begin_23 (by decide) (fun c_6 => ?_) (fun c_6 => ?_)
          · skip
            exact absurd c_6 (by decide)
          · skip
            refine lv_aload_n hx hb dX12_begin_26 rfl (lv_at hl 0 rfl) ?_
            refine lv_aload_n hx hb dX12_begin_27 rfl (lv_at hl 0 rfl) ?_
            refine lv_iload_n hx hb dX12_begin_28 rfl (lv_at hl 2 rfl) ?_
            refine vp_callSi (va_runV (As := [.int p1]) (rest := [.ref (a 0)]) ⟨hx, hb, hml, hown, ht⟩ (k_X12_isFull l D a (upd zI0 0 0) cI p1 h_3) (cwV 1 ht (zG_V zw_69 zw_70 zw_71 zw_2 zw_72) rfl rfl rfl (by decide +kernel) ⟨Nat.le_of_ble_eq_true rfl, Nat.le_of_ble_eq_true rfl⟩) (zR_V (va_recv hK hP (ci := 12) (q0 := 1) rfl rfl) (hP.sub (ws' := [((a 0), .inr (12, zMo a (upd zI0 0 0))), ((a 1), .inl (cI, 6792, .inl zI0))]) [1, 0] rfl) hK) rfl rfl hl.1 rfl (lv_room (Nat.le_of_ble_eq_true rfl)) dX12_begin_29 ⟨Nat.le_of_ble_eq_true rfl, Nat.le_of_ble_eq_true rfl⟩).run (fun r_7 hw_7 => ?_)
            obtain rfl : r_7 = 0 := hw_7
            refine lv_iconst (v := 2) hx hb dX12_begin_32 (by decide) ?_
            have hPc := hP.sub (ws' := [((a 0), .inr (12, zMo a (upd zI0 0 0)))]) [1] rfl
            have hDc := hD.sub (ws' := [((a 0), .inr (12, zMo a (upd zI0 0 0)))]) [1] (by decide) rfl
            have hKc := hK.sub (tys' := []) [] rfl
            have hFc := va_free (wc := [((a 0), .inr (12, zMo a (upd zI0 0 0)))]) hD hS hA [1] rfl
            refine va_calli (va_runV (As := [.int 0, .int 2]) (rest := []) ⟨hx, hb, hml, hown, ht⟩ (k_X12_no l _ D a (upd zI0 0 0) 0 2 (by decide)) (cwV 2 ht (zG_V zw_30 zw_31 zw_32 zw_2 zw_33) rfl rfl rfl (by decide +kernel) ⟨Nat.le_of_ble_eq_true rfl, Nat.le_of_ble_eq_true rfl⟩) (zM_V (va_recv hK hP (ci := 12) (q0 := 1) rfl rfl) hPc hKc hDc) rfl rfl hl.1 rfl (lv_room (Nat.le_of_ble_eq_true rfl)) dX12_begin_33 ⟨Nat.le_of_ble_eq_true rfl, Nat.le_of_ble_eq_true rfl⟩) hS (fun q _ h => hFc q h) hFc (fun r_8 u_8 t H1 locs ht0 hvm hw_8 hB hz1 hk1 hS => ?_)
            obtain ⟨rfl, rfl⟩ := hw_8.1 rfl
            obtain ⟨hP1, hK1, hD1⟩ := hB
            rw [ht0] at hP1
            have hK1 := va_K.moved hvm.symm hK1
            obtain ⟨hP, hD⟩ := va_join (wr := [((a 1), .inl (cI, 6792, .inl zI0))]) (w1 := [((a 0), .inr (12, zMo a (upd zI0 0 2)))]) hP hD [1] [0] rfl rfl (by decide) (by decide) hk1 hFc hP1 hD1
            generalize H1 = H at hP hS ⊢
            have hP : va_P D vwCl [((a 1), .inl (cI, 6792, .inl zI0)), ((a 0), .inr (12, zMo a (upd zI0 0 2)))] H := hP
            have hD : va_D A [((a 1), .inl (cI, 6792, .inl zI0)), ((a 0), .inr (12, zMo a (upd zI0 0 2)))] := hD
            refine lv_if_eq (tgt := 41) hx hb dX12_begin_36 (by decide) (fun c_9 => ?_) (fun c_9 => ?_)
            · skip
              exact absurd c_9 (by decide)
            · skip
              refine lv_iconst (v := 0) hx hb dX12_begin_39 (by decide) ?_
              have hP9 := hP.sub (ws' := [((a 0), .inr (12, zMo a (upd zI0 0 2)))]) [1] rfl
              have hD9 := hD.sub (ws' := [((a 0), .inr (12, zMo a (upd zI0 0 2)))]) [1] (by decide) rfl
              have hK9 := hK.sub (tys' := []) [] rfl
              refine W.widen (k := 0) (n := 0) (Nat.le_of_ble_eq_true rfl) (Nat.le_of_ble_eq_true rfl) ?_
              exact W.iret (v := 0) hx hb hr (fun t ht0 hW => ⟨⟨0, upd zI0 0 2, rfl, (show zS_begin p0 p1 2 0 from (.inr ⟨rfl, by omega⟩)), (zE_of hP9 hK9 hD9 ht0 hW)⟩, hS.F ht0⟩) hS.2.2 dX12_begin_40
      · skip
        refine lv_if_eq (tgt := 19) hx hb dX12_begin_12 (by decide) (fun c_10 => ?_) (fun c_10 => ?_)
        · skip
          refine lv_iconst (v := 0) hx hb dX12_begin_19 (by decide) ?_
          have hPc := hP.sub (ws' := [((a 0), .inr (12, zMo a zI0))]) [0] rfl
          have hDc := hD.sub (ws' := [((a 0), .inr (12, zMo a zI0))]) [0] (by decide) rfl
          have hKc := hK.sub (tys' := []) [] rfl
          have hFc := va_free (wc := [((a 0), .inr (12, zMo a zI0))]) hD hS hA [0] rfl
          refine va_calli (va_runV (As := [.int 0]) (rest := []) ⟨hx, hb, hml, hown, ht⟩ (k_X12_lacks l _ D a zI0 0 (by decide)) (cwV 1 ht (zG_V zw_62 zw_63 zw_64 zw_2 zw_65) rfl rfl rfl (by decide +kernel) ⟨Nat.le_of_ble_eq_true rfl, Nat.le_of_ble_eq_true rfl⟩) (zM_V (va_recv hK hP (ci := 12) (q0 := 0) rfl rfl) hPc hKc hDc) rfl rfl hl.1 rfl (lv_room (Nat.le_of_ble_eq_true rfl)) dX12_begin_20 ⟨Nat.le_of_ble_eq_true rfl, Nat.le_of_ble_eq_true rfl⟩) hS (fun q _ h => hFc q h) hFc (fun r_11 u_11 t H1 locs ht0 hvm hw_11 hB hz1 hk1 hS => ?_)
          obtain ⟨rfl, rfl⟩ := hw_11.1 rfl
          obtain ⟨hP1, hK1, hD1⟩ := hB
          rw [ht0] at hP1
          have hK1 := va_K.moved hvm.symm hK1
          obtain ⟨hP, hD⟩ := va_join (wr := [((a 1), .inl (cI, 6792, .inl zI0))]) (w1 := [((a 0), .inr (12, zMo a (upd zI0 0 1)))]) hP hD [0] [1] rfl rfl (by decide) (by decide) hk1 hFc hP1 hD1
          generalize H1 = H at hP hS ⊢
          have hP : va_P D vwCl [((a 1), .inl (cI, 6792, .inl zI0)), ((a 0), .inr (12, zMo a (upd zI0 0 1)))] H := hP
          have hD : va_D A [((a 1), .inl (cI, 6792, .inl zI0)), ((a 0), .inr (12, zMo a (upd zI0 0 1)))] := hD
          refine lv_if_ne (tgt := 39) hx hb dX12_begin_23 (by decide) (fun c_12 => ?_) (fun c_12 => ?_)
          · skip
            refine lv_iconst (v := 0) hx hb dX12_begin_39 (by decide) ?_
            have hP9 := hP.sub (ws' := [((a 0), .inr (12, zMo a (upd zI0 0 1)))]) [1] rfl
            have hD9 := hD.sub (ws' := [((a 0), .inr (12, zMo a (upd zI0 0 1)))]) [1] (by decide) rfl
            have hK9 := hK.sub (tys' := []) [] rfl
            refine W.widen (k := 0) (n := 0) (Nat.le_of_ble_eq_true rfl) (Nat.le_of_ble_eq_true rfl) ?_
            exact W.iret (v := 0) hx hb hr (fun t ht0 hW => ⟨⟨0, upd zI0 0 1, rfl, (show zS_begin p0 p1 1 0 from (.inl ⟨rfl, by omega⟩)), (zE_of hP9 hK9 hD9 ht0 hW)⟩, hS.F ht0⟩) hS.2.2 dX12_begin_40
          · skip
            exact absurd c_12 (by decide)
        · skip
          exact absurd c_10 (by decide)
  · skip
    refine lv_if_eq (tgt := 19) hx hb dX12_begin_5 (by decide) (fun c_13 => ?_) (fun c_13 => ?_)
    · skip
      refine lv_iconst (v := 0) hx hb dX12_begin_19 (by decide) ?_
      have hPc := hP.sub (ws' := [((a 0), .inr (12, zMo a zI0))]) [0] rfl
      have hDc := hD.sub (ws' := [((a 0), .inr (12, zMo a zI0))]) [0] (by decide) rfl
      have hKc := hK.sub (tys' := []) [] rfl
      have hFc := va_free (wc := [((a 0), .inr (12, zMo a zI0))]) hD hS hA [0] rfl
      refine va_calli (va_runV (As := [.int 0]) (rest := []) ⟨hx, hb, hml, hown, ht⟩ (k_X12_lacks l _ D a zI0 0 (by decide)) (cwV 1 ht (zG_V zw_62 zw_63 zw_64 zw_2 zw_65) rfl rfl rfl (by decide +kernel) ⟨Nat.le_of_ble_eq_true rfl, Nat.le_of_ble_eq_true rfl⟩) (zM_V (va_recv hK hP (ci := 12) (q0 := 0) rfl rfl) hPc hKc hDc) rfl rfl hl.1 rfl (lv_room (Nat.le_of_ble_eq_true rfl)) dX12_begin_20 ⟨Nat.le_of_ble_eq_true rfl, Nat.le_of_ble_eq_true rfl⟩) hS (fun q _ h => hFc q h) hFc (fun r_14 u_14 t H1 locs ht0 hvm hw_14 hB hz1 hk1 hS => ?_)
      obtain ⟨rfl, rfl⟩ := hw_14.1 rfl
      obtain ⟨hP1, hK1, hD1⟩ := hB
      rw [ht0] at hP1
      have hK1 := va_K.moved hvm.symm hK1
      obtain ⟨hP, hD⟩ := va_join (wr := [((a 1), .inl (cI, 6792, .inl zI0))]) (w1 := [((a 0), .inr (12, zMo a (upd zI0 0 1)))]) hP hD [0] [1] rfl rfl (by decide) (by decide) hk1 hFc hP1 hD1
      generalize H1 = H at hP hS ⊢
      have hP : va_P D vwCl [((a 1), .inl (cI, 6792, .inl zI0)), ((a 0), .inr (12, zMo a (upd zI0 0 1)))] H := hP
      have hD : va_D A [((a 1), .inl (cI, 6792, .inl zI0)), ((a 0), .inr (12, zMo a (upd zI0 0 1)))] := hD
      refine lv_if_ne (tgt := 39) hx hb dX12_begin_23 (by decide) (fun c_15 => ?_) (fun c_15 => ?_)
      · skip
        refine lv_iconst (v := 0) hx hb dX12_begin_39 (by decide) ?_
        have hP9 := hP.sub (ws' := [((a 0), .inr (12, zMo a (upd zI0 0 1)))]) [1] rfl
        have hD9 := hD.sub (ws' := [((a 0), .inr (12, zMo a (upd zI0 0 1)))]) [1] (by decide) rfl
        have hK9 := hK.sub (tys' := []) [] rfl
        refine W.widen (k := 0) (n := 0) (Nat.le_of_ble_eq_true rfl) (Nat.le_of_ble_eq_true rfl) ?_
        exact W.iret (v := 0) hx hb hr (fun t ht0 hW => ⟨⟨0, upd zI0 0 1, rfl, (show zS_begin p0 p1 1 0 from (.inl ⟨rfl, by omega⟩)), (zE_of hP9 hK9 hD9 ht0 hW)⟩, hS.F ht0⟩) hS.2.2 dX12_begin_40
      · skip
        exact absurd c_15 (by decide)
    · skip
      exact absurd c_13 (by decide)
set_option maxHeartbeats 4000000 in
set_option maxRecDepth 100000 in
theorem k_X12_line (l : Launch) (sz : Nat) (D : va_G) (a : Nat → Nat) (cI : ClassId) (p0 p1 p2 : Int32) : Met l yX12_line (.code yX12_line cX12_line 4 (some .int) :: zT) ({ frames := 2, cells := 0, slots := 0, locals := 43 }) (va_Pc [.ref (a 0), .int p0, .int p1, .int p2] (zM D [((a 0), .inr (12, zMo a zI0)), ((a 1), .inl (cI, 6792, .inl zI0))] [(cI, .int)] sz)) (va_Qi (fun (r : Int32) (u : Nat → Int32) => zS_line p0 p1 p2 (u 0) r) (fun u t => zE D [(a 0, .inr (12, zMo a u))] [] (va_A [((a 0), .inr (12, zMo a zI0)), ((a 1), .inl (cI, 6792, .inl zI0))] sz) t) (va_A [((a 0), .inr (12, zMo a zI0)), ((a 1), .inl (cI, 6792, .inl zI0))] sz)) 0 0 (va_A [((a 0), .inr (12, zMo a zI0)), ((a 1), .inl (cI, 6792, .inl zI0))] sz) := by
  refine Met.ofW (cc := cX12_line) (maxL := 4) (ret := (some .int)) (by decide) rfl ?_
  intro p e s m args below meth c s₁ B hml hv
  obtain ⟨rfl, hsz, hP, hK, hD0⟩ := hv
  have hx := B.exec
  have hb := B.bytes
  have hr := B.returns
  have hts := atoms_spec (ws := (.code yX12_line cX12_line 4 (some .int) :: zT)) B.pre
  have ht : ∀ w ∈ zT, w.before _ s = true := fun w h => hts w (List.mem_cons_of_mem _ h)
  have hown : s.vm.findClass RX12 = some m.cls := findClass_of_methodNamed B.named
  have hlocks := B.notSynchronized
  subst hsz
  have hD := hD0.self (sz := s.heap.size)
  generalize hAe : va_A [((a 0), .inr (12, zMo a zI0)), ((a 1), .inl (cI, 6792, .inl zI0))] s.heap.size = A at hD ⊢
  have hA : ∀ q : Nat, s.heap.size ≤ q → A q := fun q h => by rw [← hAe]; exact Or.inr h
  have hS : va_S A s.heap s.heap [] := va_S.rf
  have hP : va_P D vwCl [((a 0), .inr (12, zMo a zI0)), ((a 1), .inl (cI, 6792, .inl zI0))] s.heap := hP
  have hl := lv_entry ([.ref (a 0), .int p0, .int p1, .int p2]) (n := 4) (Nat.le_of_ble_eq_true rfl)
  rw [lg_entry_eq]
  generalize (lg_sl ([.ref (a 0), .int p0, .int p1, .int p2]) ++ List.replicate (4 - (lg_sl ([.ref (a 0), .int p0, .int p1, .int p2])).length) Slot.unset).toArray = ls at hl ⊢
  have hl : lv_has ls 4 [(0, .ref (a 0)), (1, .int p0), (2, .int p1), (3, .int p2)] := hl
  skip
  refine lv_aload_n hx hb dX12_line_0 rfl (lv_at hl 0 rfl) ?_
  refine lv_iload_n hx hb dX12_line_1 rfl (lv_at hl 1 rfl) ?_
  refine vp_callSi (va_runS (As := [.int p0]) (rest := [.ref (a 0)]) ⟨hx, hb, hml, hown, ht⟩ (k_X12_isChain l p0) (va_cwS 1 ht (zG_S zw_77 zw_78 zw_2 zw_79) rfl rfl rfl (by decide +kernel) ⟨Nat.le_of_ble_eq_true rfl, Nat.le_of_ble_eq_true rfl⟩) zN_S rfl rfl hl.1 rfl (lv_room (Nat.le_of_ble_eq_true rfl)) dX12_line_2 ⟨Nat.le_of_ble_eq_true rfl, Nat.le_of_ble_eq_true rfl⟩).run (fun r_1 hw_1 => ?_)
  rcases hw_1 with ⟨rfl, h_1⟩ | ⟨rfl, h_1⟩
  · skip
    refine lv_if_eq (tgt := 19) hx hb dX12_line_5 (by decide) (fun c_2 => ?_) (fun c_2 => ?_)
    · skip
      exact absurd c_2 (by decide)
    · skip
      refine lv_iload_n hx hb dX12_line_8 rfl (lv_at hl 3 rfl) ?_
      refine vp_callSi (va_runS (As := [.int p2]) (rest := [.ref (a 0)]) ⟨hx, hb, hml, hown, ht⟩ (k_X12_isRegister l p2) (va_cwS 1 ht (zG_S zw_59 zw_60 zw_2 zw_61) rfl rfl rfl (by decide +kernel) ⟨Nat.le_of_ble_eq_true rfl, Nat.le_of_ble_eq_true rfl⟩) zN_S rfl rfl hl.1 rfl (lv_room (Nat.le_of_ble_eq_true rfl)) dX12_line_9 ⟨Nat.le_of_ble_eq_true rfl, Nat.le_of_ble_eq_true rfl⟩).run (fun r_3 hw_3 => ?_)
      rcases hw_3 with ⟨rfl, h_3⟩ | ⟨rfl, h_3⟩
      · skip
        refine lv_if_eq (tgt := 19) hx hb dX12_line_12 (by decide) (fun c_4 => ?_) (fun c_4 => ?_)
        · skip
          exact absurd c_4 (by decide)
        · skip
          refine lv_iconst (v := 1) hx hb dX12_line_15 (by decide) ?_
          refine lv_goto (tgt := 20) hx hb dX12_line_16 (by decide) ?_
          have hPc := hP.sub (ws' := [((a 0), .inr (12, zMo a zI0))]) [0] rfl
          have hDc := hD.sub (ws' := [((a 0), .inr (12, zMo a zI0))]) [0] (by decide) rfl
          have hKc := hK.sub (tys' := []) [] rfl
          have hFc := va_free (wc := [((a 0), .inr (12, zMo a zI0))]) hD hS hA [0] rfl
          refine va_calli (va_runV (As := [.int 1]) (rest := []) ⟨hx, hb, hml, hown, ht⟩ (k_X12_lacks l _ D a zI0 1 (by decide)) (cwV 1 ht (zG_V zw_62 zw_63 zw_64 zw_2 zw_65) rfl rfl rfl (by decide +kernel) ⟨Nat.le_of_ble_eq_true rfl, Nat.le_of_ble_eq_true rfl⟩) (zM_V (va_recv hK hP (ci := 12) (q0 := 0) rfl rfl) hPc hKc hDc) rfl rfl hl.1 rfl (lv_room (Nat.le_of_ble_eq_true rfl)) dX12_line_20 ⟨Nat.le_of_ble_eq_true rfl, Nat.le_of_ble_eq_true rfl⟩) hS (fun q _ h => hFc q h) hFc (fun r_5 u_5 t H1 locs ht0 hvm hw_5 hB hz1 hk1 hS => ?_)
          obtain ⟨rfl, rfl⟩ := hw_5.2 (by decide)
          obtain ⟨hP1, hK1, hD1⟩ := hB
          rw [ht0] at hP1
          have hK1 := va_K.moved hvm.symm hK1
          obtain ⟨hP, hD⟩ := va_join (wr := [((a 1), .inl (cI, 6792, .inl zI0))]) (w1 := [((a 0), .inr (12, zMo a (upd zI0 0 0)))]) hP hD [0] [1] rfl rfl (by decide) (by decide) hk1 hFc hP1 hD1
          generalize H1 = H at hP hS ⊢
          have hP : va_P D vwCl [((a 1), .inl (cI, 6792, .inl zI0)), ((a 0), .inr (12, zMo a (upd zI0 0 0)))] H := hP
          have hD : va_D A [((a 1), .inl (cI, 6792, .inl zI0)), ((a 0), .inr (12, zMo a (upd zI0 0 0)))] := hD
          refine lv_if_ne (tgt := 70) hx hb dX12_line_23 (by decide) (fun c_6 => ?_) (fun c_6 => ?_)
          · skip
            exact absurd c_6 (by decide)
          · skip
            refine lv_aload_n hx hb dX12_line_26 rfl (lv_at hl 0 rfl) ?_
            refine lv_iload_n hx hb dX12_line_27 rfl (lv_at hl 2 rfl) ?_
            refine lv_iconst (v := 0) hx hb dX12_line_28 (by decide) ?_
            refine lv_bipush (v := 102) hx hb dX12_line_29 (by decide) ?_
            refine vp_callSi (va_runS (As := [.int p1, .int 0, .int 102]) (rest := [.ref (a 0)]) ⟨hx, hb, hml, hown, ht⟩ (k_X12_in l p1 0 102) (va_cwS 3 ht (zG_S zw_0 zw_1 zw_2 zw_3) rfl rfl rfl (by decide +kernel) ⟨Nat.le_of_ble_eq_true rfl, Nat.le_of_ble_eq_true rfl⟩) zN_S rfl rfl hl.1 rfl (lv_room (Nat.le_of_ble_eq_true rfl)) dX12_line_31 ⟨Nat.le_of_ble_eq_true rfl, Nat.le_of_ble_eq_true rfl⟩).run (fun r_7 hw_7 => ?_)
            rcases hw_7 with ⟨rfl, h_7⟩ | ⟨rfl, h_7⟩
            · skip
              simp only [Int32.reduceToInt] at h_7
              refine lv_iconst (v := 2) hx hb dX12_line_34 (by decide) ?_
              have hPc := hP.sub (ws' := [((a 0), .inr (12, zMo a (upd zI0 0 0)))]) [1] rfl
              have hDc := hD.sub (ws' := [((a 0), .inr (12, zMo a (upd zI0 0 0)))]) [1] (by decide) rfl
              have hKc := hK.sub (tys' := []) [] rfl
              have hFc := va_free (wc := [((a 0), .inr (12, zMo a (upd zI0 0 0)))]) hD hS hA [1] rfl
              refine va_calli (va_runV (As := [.int 1, .int 2]) (rest := []) ⟨hx, hb, hml, hown, ht⟩ (k_X12_no l _ D a (upd zI0 0 0) 1 2 (by decide)) (cwV 2 ht (zG_V zw_30 zw_31 zw_32 zw_2 zw_33) rfl rfl rfl (by decide +kernel) ⟨Nat.le_of_ble_eq_true rfl, Nat.le_of_ble_eq_true rfl⟩) (zM_V (va_recv hK hP (ci := 12) (q0 := 1) rfl rfl) hPc hKc hDc) rfl rfl hl.1 rfl (lv_room (Nat.le_of_ble_eq_true rfl)) dX12_line_35 ⟨Nat.le_of_ble_eq_true rfl, Nat.le_of_ble_eq_true rfl⟩) hS (fun q _ h => hFc q h) hFc (fun r_8 u_8 t H1 locs ht0 hvm hw_8 hB hz1 hk1 hS => ?_)
              obtain ⟨rfl, rfl⟩ := hw_8.2 (by decide)
              obtain ⟨hP1, hK1, hD1⟩ := hB
              rw [ht0] at hP1
              have hK1 := va_K.moved hvm.symm hK1
              obtain ⟨hP, hD⟩ := va_join (wr := [((a 1), .inl (cI, 6792, .inl zI0))]) (w1 := [((a 0), .inr (12, zMo a (upd zI0 0 0)))]) hP hD [1] [0] rfl rfl (by decide) (by decide) hk1 hFc hP1 hD1
              generalize H1 = H at hP hS ⊢
              have hP : va_P D vwCl [((a 1), .inl (cI, 6792, .inl zI0)), ((a 0), .inr (12, zMo a (upd zI0 0 0)))] H := hP
              have hD : va_D A [((a 1), .inl (cI, 6792, .inl zI0)), ((a 0), .inr (12, zMo a (upd zI0 0 0)))] := hD
              refine lv_if_ne (tgt := 70) hx hb dX12_line_38 (by decide) (fun c_9 => ?_) (fun c_9 => ?_)
              · skip
                exact absurd c_9 (by decide)
              · skip
                refine lv_aload_n hx hb dX12_line_41 rfl (lv_at hl 0 rfl) ?_
                refine lv_aload_n hx hb dX12_line_42 rfl (lv_at hl 0 rfl) ?_
                refine lv_iload_n hx hb dX12_line_43 rfl (lv_at hl 3 rfl) ?_
                refine vp_callSi (va_runV (As := [.int p2]) (rest := [.ref (a 0)]) ⟨hx, hb, hml, hown, ht⟩ (k_X12_isFull l D a (upd zI0 0 0) cI p2 h_3) (cwV 1 ht (zG_V zw_69 zw_70 zw_71 zw_2 zw_72) rfl rfl rfl (by decide +kernel) ⟨Nat.le_of_ble_eq_true rfl, Nat.le_of_ble_eq_true rfl⟩) (zR_V (va_recv hK hP (ci := 12) (q0 := 1) rfl rfl) (hP.sub (ws' := [((a 0), .inr (12, zMo a (upd zI0 0 0))), ((a 1), .inl (cI, 6792, .inl zI0))]) [1, 0] rfl) hK) rfl rfl hl.1 rfl (lv_room (Nat.le_of_ble_eq_true rfl)) dX12_line_44 ⟨Nat.le_of_ble_eq_true rfl, Nat.le_of_ble_eq_true rfl⟩).run (fun r_10 hw_10 => ?_)
                obtain rfl : r_10 = 0 := hw_10
                refine lv_if_eq (tgt := 62) hx hb dX12_line_47 (by decide) (fun c_11 => ?_) (fun c_11 => ?_)
                · skip
                  refine lv_iconst (v := 0) hx hb dX12_line_62 (by decide) ?_
                  refine lv_iconst (v := 3) hx hb dX12_line_63 (by decide) ?_
                  have hPc := hP.sub (ws' := [((a 0), .inr (12, zMo a (upd zI0 0 0)))]) [1] rfl
                  have hDc := hD.sub (ws' := [((a 0), .inr (12, zMo a (upd zI0 0 0)))]) [1] (by decide) rfl
                  have hKc := hK.sub (tys' := []) [] rfl
                  have hFc := va_free (wc := [((a 0), .inr (12, zMo a (upd zI0 0 0)))]) hD hS hA [1] rfl
                  refine va_calli (va_runV (As := [.int 0, .int 3]) (rest := []) ⟨hx, hb, hml, hown, ht⟩ (k_X12_no l _ D a (upd zI0 0 0) 0 3 (by decide)) (cwV 2 ht (zG_V zw_30 zw_31 zw_32 zw_2 zw_33) rfl rfl rfl (by decide +kernel) ⟨Nat.le_of_ble_eq_true rfl, Nat.le_of_ble_eq_true rfl⟩) (zM_V (va_recv hK hP (ci := 12) (q0 := 1) rfl rfl) hPc hKc hDc) rfl rfl hl.1 rfl (lv_room (Nat.le_of_ble_eq_true rfl)) dX12_line_64 ⟨Nat.le_of_ble_eq_true rfl, Nat.le_of_ble_eq_true rfl⟩) hS (fun q _ h => hFc q h) hFc (fun r_12 u_12 t H1 locs ht0 hvm hw_12 hB hz1 hk1 hS => ?_)
                  obtain ⟨rfl, rfl⟩ := hw_12.1 rfl
                  obtain ⟨hP1, hK1, hD1⟩ := hB
                  rw [ht0] at hP1
                  have hK1 := va_K.moved hvm.symm hK1
                  obtain ⟨hP, hD⟩ := va_join (wr := [((a 1), .inl (cI, 6792, .inl zI0))]) (w1 := [((a 0), .inr (12, zMo a (upd zI0 0 3)))]) hP hD [1] [0] rfl rfl (by decide) (by decide) hk1 hFc hP1 hD1
                  generalize H1 = H at hP hS ⊢
                  have hP : va_P D vwCl [((a 1), .inl (cI, 6792, .inl zI0)), ((a 0), .inr (12, zMo a (upd zI0 0 3)))] H := hP
                  have hD : va_D A [((a 1), .inl (cI, 6792, .inl zI0)), ((a 0), .inr (12, zMo a (upd zI0 0 3)))] := hD
                  refine lv_if_eq (tgt := 72) hx hb dX12_line_67 (by decide) (fun c_13 => ?_) (fun c_13 => ?_)
                  · skip
                    exact absurd c_13 (by decide)
                  · skip
                    refine lv_iconst (v := 0) hx hb dX12_line_70 (by decide) ?_
                    have hP9 := hP.sub (ws' := [((a 0), .inr (12, zMo a (upd zI0 0 3)))]) [1] rfl
                    have hD9 := hD.sub (ws' := [((a 0), .inr (12, zMo a (upd zI0 0 3)))]) [1] (by decide) rfl
                    have hK9 := hK.sub (tys' := []) [] rfl
                    refine W.widen (k := 0) (n := 0) (Nat.le_of_ble_eq_true rfl) (Nat.le_of_ble_eq_true rfl) ?_
                    exact W.iret (v := 0) hx hb hr (fun t ht0 hW => ⟨⟨0, upd zI0 0 3, rfl, (show zS_line p0 p1 p2 3 0 from (.inr (.inr ⟨rfl, by omega⟩))), (zE_of hP9 hK9 hD9 ht0 hW)⟩, hS.F ht0⟩) hS.2.2 dX12_line_71
                · skip
                  exact absurd c_11 (by decide)
            · skip
              simp only [Int32.reduceToInt] at h_7
              refine lv_iconst (v := 2) hx hb dX12_line_34 (by decide) ?_
              have hPc := hP.sub (ws' := [((a 0), .inr (12, zMo a (upd zI0 0 0)))]) [1] rfl
              have hDc := hD.sub (ws' := [((a 0), .inr (12, zMo a (upd zI0 0 0)))]) [1] (by decide) rfl
              have hKc := hK.sub (tys' := []) [] rfl
              have hFc := va_free (wc := [((a 0), .inr (12, zMo a (upd zI0 0 0)))]) hD hS hA [1] rfl
              refine va_calli (va_runV (As := [.int 0, .int 2]) (rest := []) ⟨hx, hb, hml, hown, ht⟩ (k_X12_no l _ D a (upd zI0 0 0) 0 2 (by decide)) (cwV 2 ht (zG_V zw_30 zw_31 zw_32 zw_2 zw_33) rfl rfl rfl (by decide +kernel) ⟨Nat.le_of_ble_eq_true rfl, Nat.le_of_ble_eq_true rfl⟩) (zM_V (va_recv hK hP (ci := 12) (q0 := 1) rfl rfl) hPc hKc hDc) rfl rfl hl.1 rfl (lv_room (Nat.le_of_ble_eq_true rfl)) dX12_line_35 ⟨Nat.le_of_ble_eq_true rfl, Nat.le_of_ble_eq_true rfl⟩) hS (fun q _ h => hFc q h) hFc (fun r_14 u_14 t H1 locs ht0 hvm hw_14 hB hz1 hk1 hS => ?_)
              obtain ⟨rfl, rfl⟩ := hw_14.1 rfl
              obtain ⟨hP1, hK1, hD1⟩ := hB
              rw [ht0] at hP1
              have hK1 := va_K.moved hvm.symm hK1
              obtain ⟨hP, hD⟩ := va_join (wr := [((a 1), .inl (cI, 6792, .inl zI0))]) (w1 := [((a 0), .inr (12, zMo a (upd zI0 0 2)))]) hP hD [1] [0] rfl rfl (by decide) (by decide) hk1 hFc hP1 hD1
              generalize H1 = H at hP hS ⊢
              have hP : va_P D vwCl [((a 1), .inl (cI, 6792, .inl zI0)), ((a 0), .inr (12, zMo a (upd zI0 0 2)))] H := hP
              have hD : va_D A [((a 1), .inl (cI, 6792, .inl zI0)), ((a 0), .inr (12, zMo a (upd zI0 0 2)))] := hD
              refine lv_if_ne (tgt := 70) hx hb dX12_line_38 (by decide) (fun c_15 => ?_) (fun c_15 => ?_)
              · skip
                refine lv_iconst (v := 0) hx hb dX12_line_70 (by decide) ?_
                have hP9 := hP.sub (ws' := [((a 0), .inr (12, zMo a (upd zI0 0 2)))]) [1] rfl
                have hD9 := hD.sub (ws' := [((a 0), .inr (12, zMo a (upd zI0 0 2)))]) [1] (by decide) rfl
                have hK9 := hK.sub (tys' := []) [] rfl
                refine W.widen (k := 0) (n := 0) (Nat.le_of_ble_eq_true rfl) (Nat.le_of_ble_eq_true rfl) ?_
                exact W.iret (v := 0) hx hb hr (fun t ht0 hW => ⟨⟨0, upd zI0 0 2, rfl, (show zS_line p0 p1 p2 2 0 from (.inr (.inl ⟨rfl, by omega⟩))), (zE_of hP9 hK9 hD9 ht0 hW)⟩, hS.F ht0⟩) hS.2.2 dX12_line_71
              · skip
                exact absurd c_15 (by decide)
      · skip
        refine lv_if_eq (tgt := 19) hx hb dX12_line_12 (by decide) (fun c_16 => ?_) (fun c_16 => ?_)
        · skip
          refine lv_iconst (v := 0) hx hb dX12_line_19 (by decide) ?_
          have hPc := hP.sub (ws' := [((a 0), .inr (12, zMo a zI0))]) [0] rfl
          have hDc := hD.sub (ws' := [((a 0), .inr (12, zMo a zI0))]) [0] (by decide) rfl
          have hKc := hK.sub (tys' := []) [] rfl
          have hFc := va_free (wc := [((a 0), .inr (12, zMo a zI0))]) hD hS hA [0] rfl
          refine va_calli (va_runV (As := [.int 0]) (rest := []) ⟨hx, hb, hml, hown, ht⟩ (k_X12_lacks l _ D a zI0 0 (by decide)) (cwV 1 ht (zG_V zw_62 zw_63 zw_64 zw_2 zw_65) rfl rfl rfl (by decide +kernel) ⟨Nat.le_of_ble_eq_true rfl, Nat.le_of_ble_eq_true rfl⟩) (zM_V (va_recv hK hP (ci := 12) (q0 := 0) rfl rfl) hPc hKc hDc) rfl rfl hl.1 rfl (lv_room (Nat.le_of_ble_eq_true rfl)) dX12_line_20 ⟨Nat.le_of_ble_eq_true rfl, Nat.le_of_ble_eq_true rfl⟩) hS (fun q _ h => hFc q h) hFc (fun r_17 u_17 t H1 locs ht0 hvm hw_17 hB hz1 hk1 hS => ?_)
          obtain ⟨rfl, rfl⟩ := hw_17.1 rfl
          obtain ⟨hP1, hK1, hD1⟩ := hB
          rw [ht0] at hP1
          have hK1 := va_K.moved hvm.symm hK1
          obtain ⟨hP, hD⟩ := va_join (wr := [((a 1), .inl (cI, 6792, .inl zI0))]) (w1 := [((a 0), .inr (12, zMo a (upd zI0 0 1)))]) hP hD [0] [1] rfl rfl (by decide) (by decide) hk1 hFc hP1 hD1
          generalize H1 = H at hP hS ⊢
          have hP : va_P D vwCl [((a 1), .inl (cI, 6792, .inl zI0)), ((a 0), .inr (12, zMo a (upd zI0 0 1)))] H := hP
          have hD : va_D A [((a 1), .inl (cI, 6792, .inl zI0)), ((a 0), .inr (12, zMo a (upd zI0 0 1)))] := hD
          refine lv_if_ne (tgt := 70) hx hb dX12_line_23 (by decide) (fun c_18 => ?_) (fun c_18 => ?_)
          · skip
            refine lv_iconst (v := 0) hx hb dX12_line_70 (by decide) ?_
            have hP9 := hP.sub (ws' := [((a 0), .inr (12, zMo a (upd zI0 0 1)))]) [1] rfl
            have hD9 := hD.sub (ws' := [((a 0), .inr (12, zMo a (upd zI0 0 1)))]) [1] (by decide) rfl
            have hK9 := hK.sub (tys' := []) [] rfl
            refine W.widen (k := 0) (n := 0) (Nat.le_of_ble_eq_true rfl) (Nat.le_of_ble_eq_true rfl) ?_
            exact W.iret (v := 0) hx hb hr (fun t ht0 hW => ⟨⟨0, upd zI0 0 1, rfl, (show zS_line p0 p1 p2 1 0 from (.inl ⟨rfl, by omega⟩)), (zE_of hP9 hK9 hD9 ht0 hW)⟩, hS.F ht0⟩) hS.2.2 dX12_line_71
          · skip
            exact absurd c_18 (by decide)
        · skip
          exact absurd c_16 (by decide)
  · skip
    refine lv_if_eq (tgt := 19) hx hb dX12_line_5 (by decide) (fun c_19 => ?_) (fun c_19 => ?_)
    · skip
      refine lv_iconst (v := 0) hx hb dX12_line_19 (by decide) ?_
      have hPc := hP.sub (ws' := [((a 0), .inr (12, zMo a zI0))]) [0] rfl
      have hDc := hD.sub (ws' := [((a 0), .inr (12, zMo a zI0))]) [0] (by decide) rfl
      have hKc := hK.sub (tys' := []) [] rfl
      have hFc := va_free (wc := [((a 0), .inr (12, zMo a zI0))]) hD hS hA [0] rfl
      refine va_calli (va_runV (As := [.int 0]) (rest := []) ⟨hx, hb, hml, hown, ht⟩ (k_X12_lacks l _ D a zI0 0 (by decide)) (cwV 1 ht (zG_V zw_62 zw_63 zw_64 zw_2 zw_65) rfl rfl rfl (by decide +kernel) ⟨Nat.le_of_ble_eq_true rfl, Nat.le_of_ble_eq_true rfl⟩) (zM_V (va_recv hK hP (ci := 12) (q0 := 0) rfl rfl) hPc hKc hDc) rfl rfl hl.1 rfl (lv_room (Nat.le_of_ble_eq_true rfl)) dX12_line_20 ⟨Nat.le_of_ble_eq_true rfl, Nat.le_of_ble_eq_true rfl⟩) hS (fun q _ h => hFc q h) hFc (fun r_20 u_20 t H1 locs ht0 hvm hw_20 hB hz1 hk1 hS => ?_)
      obtain ⟨rfl, rfl⟩ := hw_20.1 rfl
      obtain ⟨hP1, hK1, hD1⟩ := hB
      rw [ht0] at hP1
      have hK1 := va_K.moved hvm.symm hK1
      obtain ⟨hP, hD⟩ := va_join (wr := [((a 1), .inl (cI, 6792, .inl zI0))]) (w1 := [((a 0), .inr (12, zMo a (upd zI0 0 1)))]) hP hD [0] [1] rfl rfl (by decide) (by decide) hk1 hFc hP1 hD1
      generalize H1 = H at hP hS ⊢
      have hP : va_P D vwCl [((a 1), .inl (cI, 6792, .inl zI0)), ((a 0), .inr (12, zMo a (upd zI0 0 1)))] H := hP
      have hD : va_D A [((a 1), .inl (cI, 6792, .inl zI0)), ((a 0), .inr (12, zMo a (upd zI0 0 1)))] := hD
      refine lv_if_ne (tgt := 70) hx hb dX12_line_23 (by decide) (fun c_21 => ?_) (fun c_21 => ?_)
      · skip
        refine lv_iconst (v := 0) hx hb dX12_line_70 (by decide) ?_
        have hP9 := hP.sub (ws' := [((a 0), .inr (12, zMo a (upd zI0 0 1)))]) [1] rfl
        have hD9 := hD.sub (ws' := [((a 0), .inr (12, zMo a (upd zI0 0 1)))]) [1] (by decide) rfl
        have hK9 := hK.sub (tys' := []) [] rfl
        refine W.widen (k := 0) (n := 0) (Nat.le_of_ble_eq_true rfl) (Nat.le_of_ble_eq_true rfl) ?_
        exact W.iret (v := 0) hx hb hr (fun t ht0 hW => ⟨⟨0, upd zI0 0 1, rfl, (show zS_line p0 p1 p2 1 0 from (.inl ⟨rfl, by omega⟩)), (zE_of hP9 hK9 hD9 ht0 hW)⟩, hS.F ht0⟩) hS.2.2 dX12_line_71
      · skip
        exact absurd c_21 (by decide)
    · skip
      exact absurd c_19 (by decide)
set_option maxHeartbeats 4000000 in
set_option maxRecDepth 100000 in
theorem k_X12_step (l : Launch) (sz : Nat) (D : va_G) (a : Nat → Nat) (cI : ClassId) (p0 p1 p2 : Int32) : Met l yX12_step (.code yX12_step cX12_step 6 (some .int) :: zT) ({ frames := 2, cells := 0, slots := 0, locals := 43 }) (va_Pc [.ref (a 0), .int p0, .int p1, .int p2] (zM D [((a 0), .inr (12, zMo a zI0)), ((a 1), .inl (cI, 6792, .inl zI0))] [(cI, .int)] sz)) (va_Qi (fun (r : Int32) (u : Nat → Int32) => zS_step p0 p1 p2 (u 0) r) (fun u t => zE D [(a 0, .inr (12, zMo a u))] [] (va_A [((a 0), .inr (12, zMo a zI0)), ((a 1), .inl (cI, 6792, .inl zI0))] sz) t) (va_A [((a 0), .inr (12, zMo a zI0)), ((a 1), .inl (cI, 6792, .inl zI0))] sz)) 0 0 (va_A [((a 0), .inr (12, zMo a zI0)), ((a 1), .inl (cI, 6792, .inl zI0))] sz) := by
  refine Met.ofW (cc := cX12_step) (maxL := 6) (ret := (some .int)) (by decide) rfl ?_
  intro p e s m args below meth c s₁ B hml hv
  obtain ⟨rfl, hsz, hP, hK, hD0⟩ := hv
  have hx := B.exec
  have hb := B.bytes
  have hr := B.returns
  have hts := atoms_spec (ws := (.code yX12_step cX12_step 6 (some .int) :: zT)) B.pre
  have ht : ∀ w ∈ zT, w.before _ s = true := fun w h => hts w (List.mem_cons_of_mem _ h)
  have hown : s.vm.findClass RX12 = some m.cls := findClass_of_methodNamed B.named
  have hlocks := B.notSynchronized
  subst hsz
  have hD := hD0.self (sz := s.heap.size)
  generalize hAe : va_A [((a 0), .inr (12, zMo a zI0)), ((a 1), .inl (cI, 6792, .inl zI0))] s.heap.size = A at hD ⊢
  have hA : ∀ q : Nat, s.heap.size ≤ q → A q := fun q h => by rw [← hAe]; exact Or.inr h
  have hS : va_S A s.heap s.heap [] := va_S.rf
  have hP : va_P D vwCl [((a 0), .inr (12, zMo a zI0)), ((a 1), .inl (cI, 6792, .inl zI0))] s.heap := hP
  have hl := lv_entry ([.ref (a 0), .int p0, .int p1, .int p2]) (n := 6) (Nat.le_of_ble_eq_true rfl)
  rw [lg_entry_eq]
  generalize (lg_sl ([.ref (a 0), .int p0, .int p1, .int p2]) ++ List.replicate (6 - (lg_sl ([.ref (a 0), .int p0, .int p1, .int p2])).length) Slot.unset).toArray = ls at hl ⊢
  have hl : lv_has ls 6 [(0, .ref (a 0)), (1, .int p0), (2, .int p1), (3, .int p2)] := hl
  skip
  refine lv_aload_n hx hb dX12_step_0 rfl (lv_at hl 0 rfl) ?_
  refine lv_iload_n hx hb dX12_step_1 rfl (lv_at hl 1 rfl) ?_
  refine vp_callSi (va_runS (As := [.int p0]) (rest := [.ref (a 0)]) ⟨hx, hb, hml, hown, ht⟩ (k_X12_isChain l p0) (va_cwS 1 ht (zG_S zw_77 zw_78 zw_2 zw_79) rfl rfl rfl (by decide +kernel) ⟨Nat.le_of_ble_eq_true rfl, Nat.le_of_ble_eq_true rfl⟩) zN_S rfl rfl hl.1 rfl (lv_room (Nat.le_of_ble_eq_true rfl)) dX12_step_2 ⟨Nat.le_of_ble_eq_true rfl, Nat.le_of_ble_eq_true rfl⟩).run (fun r_1 hw_1 => ?_)
  rcases hw_1 with ⟨rfl, h_1⟩ | ⟨rfl, h_1⟩
  · skip
    refine lv_if_eq (tgt := 19) hx hb dX12_step_5 (by decide) (fun c_2 => ?_) (fun c_2 => ?_)
    · skip
      exact absurd c_2 (by decide)
    · skip
      refine lv_iload_n hx hb dX12_step_8 rfl (lv_at hl 3 rfl) ?_
      refine vp_callSi (va_runS (As := [.int p2]) (rest := [.ref (a 0)]) ⟨hx, hb, hml, hown, ht⟩ (k_X12_isRegister l p2) (va_cwS 1 ht (zG_S zw_59 zw_60 zw_2 zw_61) rfl rfl rfl (by decide +kernel) ⟨Nat.le_of_ble_eq_true rfl, Nat.le_of_ble_eq_true rfl⟩) zN_S rfl rfl hl.1 rfl (lv_room (Nat.le_of_ble_eq_true rfl)) dX12_step_9 ⟨Nat.le_of_ble_eq_true rfl, Nat.le_of_ble_eq_true rfl⟩).run (fun r_3 hw_3 => ?_)
      rcases hw_3 with ⟨rfl, h_3⟩ | ⟨rfl, h_3⟩
      · skip
        refine lv_if_eq (tgt := 19) hx hb dX12_step_12 (by decide) (fun c_4 => ?_) (fun c_4 => ?_)
        · skip
          exact absurd c_4 (by decide)
        · skip
          refine lv_iconst (v := 1) hx hb dX12_step_15 (by decide) ?_
          refine lv_goto (tgt := 20) hx hb dX12_step_16 (by decide) ?_
          have hPc := hP.sub (ws' := [((a 0), .inr (12, zMo a zI0))]) [0] rfl
          have hDc := hD.sub (ws' := [((a 0), .inr (12, zMo a zI0))]) [0] (by decide) rfl
          have hKc := hK.sub (tys' := []) [] rfl
          have hFc := va_free (wc := [((a 0), .inr (12, zMo a zI0))]) hD hS hA [0] rfl
          refine va_calli (va_runV (As := [.int 1]) (rest := []) ⟨hx, hb, hml, hown, ht⟩ (k_X12_lacks l _ D a zI0 1 (by decide)) (cwV 1 ht (zG_V zw_62 zw_63 zw_64 zw_2 zw_65) rfl rfl rfl (by decide +kernel) ⟨Nat.le_of_ble_eq_true rfl, Nat.le_of_ble_eq_true rfl⟩) (zM_V (va_recv hK hP (ci := 12) (q0 := 0) rfl rfl) hPc hKc hDc) rfl rfl hl.1 rfl (lv_room (Nat.le_of_ble_eq_true rfl)) dX12_step_20 ⟨Nat.le_of_ble_eq_true rfl, Nat.le_of_ble_eq_true rfl⟩) hS (fun q _ h => hFc q h) hFc (fun r_5 u_5 t H1 locs ht0 hvm hw_5 hB hz1 hk1 hS => ?_)
          obtain ⟨rfl, rfl⟩ := hw_5.2 (by decide)
          obtain ⟨hP1, hK1, hD1⟩ := hB
          rw [ht0] at hP1
          have hK1 := va_K.moved hvm.symm hK1
          obtain ⟨hP, hD⟩ := va_join (wr := [((a 1), .inl (cI, 6792, .inl zI0))]) (w1 := [((a 0), .inr (12, zMo a (upd zI0 0 0)))]) hP hD [0] [1] rfl rfl (by decide) (by decide) hk1 hFc hP1 hD1
          generalize H1 = H at hP hS ⊢
          have hP : va_P D vwCl [((a 1), .inl (cI, 6792, .inl zI0)), ((a 0), .inr (12, zMo a (upd zI0 0 0)))] H := hP
          have hD : va_D A [((a 1), .inl (cI, 6792, .inl zI0)), ((a 0), .inr (12, zMo a (upd zI0 0 0)))] := hD
          refine lv_if_eq (tgt := 28) hx hb dX12_step_23 (by decide) (fun c_6 => ?_) (fun c_6 => ?_)
          · skip
            refine lv_iload_n hx hb dX12_step_28 rfl (lv_at hl 2 rfl) ?_
            refine vp_callSi (va_runS (As := [.int p1]) (rest := []) ⟨hx, hb, hml, hown, ht⟩ (k_X12_isName l p1) (va_cwS 1 ht (zG_S zw_66 zw_67 zw_2 zw_68) rfl rfl rfl (by decide +kernel) ⟨Nat.le_of_ble_eq_true rfl, Nat.le_of_ble_eq_true rfl⟩) zN_S rfl rfl hl.1 rfl (lv_room (Nat.le_of_ble_eq_true rfl)) dX12_step_29 ⟨Nat.le_of_ble_eq_true rfl, Nat.le_of_ble_eq_true rfl⟩).run (fun r_7 hw_7 => ?_)
            rcases hw_7 with ⟨rfl, h_7⟩ | ⟨rfl, h_7⟩
            · skip
              refine lv_if_eq (tgt := 52) hx hb dX12_step_32 (by decide) (fun c_8 => ?_) (fun c_8 => ?_)
              · skip
                exact absurd c_8 (by decide)
              · skip
                refine lv_aload_n hx hb dX12_step_35 rfl (lv_at hl 0 rfl) ?_
                refine lv_iload_n hx hb dX12_step_36 rfl (lv_at hl 2 rfl) ?_
                refine vp_callSi (va_runV (As := [.int p1]) (rest := []) ⟨hx, hb, hml, hown, ht⟩ (k_X12_atLaw l D a (upd zI0 0 0) cI p1) (cwV 1 ht (zG_V zw_73 zw_74 zw_75 zw_2 zw_76) rfl rfl rfl (by decide +kernel) ⟨Nat.le_of_ble_eq_true rfl, Nat.le_of_ble_eq_true rfl⟩) (zR_V (va_recv hK hP (ci := 12) (q0 := 1) rfl rfl) (hP.sub (ws' := [((a 0), .inr (12, zMo a (upd zI0 0 0))), ((a 1), .inl (cI, 6792, .inl zI0))]) [1, 0] rfl) hK) rfl rfl hl.1 rfl (lv_room (Nat.le_of_ble_eq_true rfl)) dX12_step_37 ⟨Nat.le_of_ble_eq_true rfl, Nat.le_of_ble_eq_true rfl⟩).run (fun r_9 hw_9 => ?_)
                obtain rfl : r_9 = (-1) := hw_9
                refine lv_iconst (v := (-1)) hx hb dX12_step_40 (by decide) ?_
                refine lv_icmp_eq (tgt := 48) hx hb dX12_step_41 (by decide) (fun c_10 => ?_) (fun c_10 => ?_)
                · skip
                  refine lv_iconst (v := 0) hx hb dX12_step_48 (by decide) ?_
                  refine lv_goto (tgt := 66) hx hb dX12_step_49 (by decide) ?_
                  refine lv_istore (lv' := [(4, .int 0), (0, .ref (a 0)), (1, .int p0), (2, .int p1), (3, .int p2)]) hx hb dX12_step_66 hl (by decide) rfl (fun ls hl => ?_)
                  refine lv_aload_n hx hb dX12_step_68 rfl (lv_at hl 1 rfl) ?_
                  refine lv_iload hx hb dX12_step_69 (lv_at hl 0 rfl) ?_
                  refine lv_iconst (v := 2) hx hb dX12_step_71 (by decide) ?_
                  have hPc := hP.sub (ws' := [((a 0), .inr (12, zMo a (upd zI0 0 0)))]) [1] rfl
                  have hDc := hD.sub (ws' := [((a 0), .inr (12, zMo a (upd zI0 0 0)))]) [1] (by decide) rfl
                  have hKc := hK.sub (tys' := []) [] rfl
                  have hFc := va_free (wc := [((a 0), .inr (12, zMo a (upd zI0 0 0)))]) hD hS hA [1] rfl
                  refine va_calli (va_runV (As := [.int 0, .int 2]) (rest := []) ⟨hx, hb, hml, hown, ht⟩ (k_X12_no l _ D a (upd zI0 0 0) 0 2 (by decide)) (cwV 2 ht (zG_V zw_30 zw_31 zw_32 zw_2 zw_33) rfl rfl rfl (by decide +kernel) ⟨Nat.le_of_ble_eq_true rfl, Nat.le_of_ble_eq_true rfl⟩) (zM_V (va_recv hK hP (ci := 12) (q0 := 1) rfl rfl) hPc hKc hDc) rfl rfl hl.1 rfl (lv_room (Nat.le_of_ble_eq_true rfl)) dX12_step_72 ⟨Nat.le_of_ble_eq_true rfl, Nat.le_of_ble_eq_true rfl⟩) hS (fun q _ h => hFc q h) hFc (fun r_11 u_11 t H1 locs ht0 hvm hw_11 hB hz1 hk1 hS => ?_)
                  obtain ⟨rfl, rfl⟩ := hw_11.1 rfl
                  obtain ⟨hP1, hK1, hD1⟩ := hB
                  rw [ht0] at hP1
                  have hK1 := va_K.moved hvm.symm hK1
                  obtain ⟨hP, hD⟩ := va_join (wr := [((a 1), .inl (cI, 6792, .inl zI0))]) (w1 := [((a 0), .inr (12, zMo a (upd zI0 0 2)))]) hP hD [1] [0] rfl rfl (by decide) (by decide) hk1 hFc hP1 hD1
                  generalize H1 = H at hP hS ⊢
                  have hP : va_P D vwCl [((a 1), .inl (cI, 6792, .inl zI0)), ((a 0), .inr (12, zMo a (upd zI0 0 2)))] H := hP
                  have hD : va_D A [((a 1), .inl (cI, 6792, .inl zI0)), ((a 0), .inr (12, zMo a (upd zI0 0 2)))] := hD
                  refine lv_if_ne (tgt := 107) hx hb dX12_step_75 (by decide) (fun c_12 => ?_) (fun c_12 => ?_)
                  · skip
                    refine lv_iconst (v := 0) hx hb dX12_step_107 (by decide) ?_
                    have hP9 := hP.sub (ws' := [((a 0), .inr (12, zMo a (upd zI0 0 2)))]) [1] rfl
                    have hD9 := hD.sub (ws' := [((a 0), .inr (12, zMo a (upd zI0 0 2)))]) [1] (by decide) rfl
                    have hK9 := hK.sub (tys' := []) [] rfl
                    refine W.widen (k := 0) (n := 0) (Nat.le_of_ble_eq_true rfl) (Nat.le_of_ble_eq_true rfl) ?_
                    exact W.iret (v := 0) hx hb hr (fun t ht0 hW => ⟨⟨0, upd zI0 0 2, rfl, (show zS_step p0 p1 p2 2 0 from (.inr ⟨rfl, by omega⟩)), (zE_of hP9 hK9 hD9 ht0 hW)⟩, hS.F ht0⟩) hS.2.2 dX12_step_108
                  · skip
                    exact absurd c_12 (by decide)
                · skip
                  exact absurd c_10 (by decide)
            · skip
              refine lv_if_eq (tgt := 52) hx hb dX12_step_32 (by decide) (fun c_13 => ?_) (fun c_13 => ?_)
              · skip
                refine lv_iload_n hx hb dX12_step_52 rfl (lv_at hl 2 rfl) ?_
                refine lv_bipush (v := 100) hx hb dX12_step_53 (by decide) ?_
                refine lv_isub hx hb dX12_step_55 ?_
                refine lv_topi (fun x_14 e_14 => ?_)
                refine lv_iconst (v := 0) hx hb dX12_step_56 (by decide) ?_
                refine lv_aload_n hx hb dX12_step_57 rfl (lv_at hl 0 rfl) ?_
                refine vp_callSi (va_runV (As := []) (rest := [.int 0, .int x_14]) ⟨hx, hb, hml, hown, ht⟩ (k_X12_openNow l D a (upd zI0 0 0) cI) (cwV 0 ht (zG_V zw_51 zw_52 zw_53 zw_2 zw_54) rfl rfl rfl (by decide +kernel) ⟨Nat.le_of_ble_eq_true rfl, Nat.le_of_ble_eq_true rfl⟩) (zR_V (va_recv hK hP (ci := 12) (q0 := 1) rfl rfl) (hP.sub (ws' := [((a 0), .inr (12, zMo a (upd zI0 0 0))), ((a 1), .inl (cI, 6792, .inl zI0))]) [1, 0] rfl) hK) rfl rfl hl.1 rfl (lv_room (Nat.le_of_ble_eq_true rfl)) dX12_step_58 ⟨Nat.le_of_ble_eq_true rfl, Nat.le_of_ble_eq_true rfl⟩).run (fun r_15 hw_15 => ?_)
                obtain rfl : r_15 = 0 := hw_15
                refine lv_iconst (v := 1) hx hb dX12_step_61 (by decide) ?_
                refine lv_isub hx hb dX12_step_62 ?_
                refine lv_topi (fun x_16 e_16 => ?_)
                obtain rfl : x_16 = (-1) := e_16.trans (by decide)
                refine vp_callSi (va_runS (As := [.int x_14, .int 0, .int (-1)]) (rest := []) ⟨hx, hb, hml, hown, ht⟩ (k_X12_in l x_14 0 (-1)) (va_cwS 3 ht (zG_S zw_0 zw_1 zw_2 zw_3) rfl rfl rfl (by decide +kernel) ⟨Nat.le_of_ble_eq_true rfl, Nat.le_of_ble_eq_true rfl⟩) zN_S rfl rfl hl.1 rfl (lv_room (Nat.le_of_ble_eq_true rfl)) dX12_step_63 ⟨Nat.le_of_ble_eq_true rfl, Nat.le_of_ble_eq_true rfl⟩).run (fun r_17 hw_17 => ?_)
                rcases hw_17 with ⟨rfl, h_17⟩ | ⟨rfl, h_17⟩
                · skip
                  simp only [Int32.reduceToInt] at h_17
                  exfalso; omega
                · skip
                  simp only [Int32.reduceToInt] at h_17
                  refine lv_istore (lv' := [(4, .int 0), (0, .ref (a 0)), (1, .int p0), (2, .int p1), (3, .int p2)]) hx hb dX12_step_66 hl (by decide) rfl (fun ls hl => ?_)
                  refine lv_aload_n hx hb dX12_step_68 rfl (lv_at hl 1 rfl) ?_
                  refine lv_iload hx hb dX12_step_69 (lv_at hl 0 rfl) ?_
                  refine lv_iconst (v := 2) hx hb dX12_step_71 (by decide) ?_
                  have hPc := hP.sub (ws' := [((a 0), .inr (12, zMo a (upd zI0 0 0)))]) [1] rfl
                  have hDc := hD.sub (ws' := [((a 0), .inr (12, zMo a (upd zI0 0 0)))]) [1] (by decide) rfl
                  have hKc := hK.sub (tys' := []) [] rfl
                  have hFc := va_free (wc := [((a 0), .inr (12, zMo a (upd zI0 0 0)))]) hD hS hA [1] rfl
                  refine va_calli (va_runV (As := [.int 0, .int 2]) (rest := []) ⟨hx, hb, hml, hown, ht⟩ (k_X12_no l _ D a (upd zI0 0 0) 0 2 (by decide)) (cwV 2 ht (zG_V zw_30 zw_31 zw_32 zw_2 zw_33) rfl rfl rfl (by decide +kernel) ⟨Nat.le_of_ble_eq_true rfl, Nat.le_of_ble_eq_true rfl⟩) (zM_V (va_recv hK hP (ci := 12) (q0 := 1) rfl rfl) hPc hKc hDc) rfl rfl hl.1 rfl (lv_room (Nat.le_of_ble_eq_true rfl)) dX12_step_72 ⟨Nat.le_of_ble_eq_true rfl, Nat.le_of_ble_eq_true rfl⟩) hS (fun q _ h => hFc q h) hFc (fun r_18 u_18 t H1 locs ht0 hvm hw_18 hB hz1 hk1 hS => ?_)
                  obtain ⟨rfl, rfl⟩ := hw_18.1 rfl
                  obtain ⟨hP1, hK1, hD1⟩ := hB
                  rw [ht0] at hP1
                  have hK1 := va_K.moved hvm.symm hK1
                  obtain ⟨hP, hD⟩ := va_join (wr := [((a 1), .inl (cI, 6792, .inl zI0))]) (w1 := [((a 0), .inr (12, zMo a (upd zI0 0 2)))]) hP hD [1] [0] rfl rfl (by decide) (by decide) hk1 hFc hP1 hD1
                  generalize H1 = H at hP hS ⊢
                  have hP : va_P D vwCl [((a 1), .inl (cI, 6792, .inl zI0)), ((a 0), .inr (12, zMo a (upd zI0 0 2)))] H := hP
                  have hD : va_D A [((a 1), .inl (cI, 6792, .inl zI0)), ((a 0), .inr (12, zMo a (upd zI0 0 2)))] := hD
                  refine lv_if_ne (tgt := 107) hx hb dX12_step_75 (by decide) (fun c_19 => ?_) (fun c_19 => ?_)
                  · skip
                    refine lv_iconst (v := 0) hx hb dX12_step_107 (by decide) ?_
                    have hP9 := hP.sub (ws' := [((a 0), .inr (12, zMo a (upd zI0 0 2)))]) [1] rfl
                    have hD9 := hD.sub (ws' := [((a 0), .inr (12, zMo a (upd zI0 0 2)))]) [1] (by decide) rfl
                    have hK9 := hK.sub (tys' := []) [] rfl
                    refine W.widen (k := 0) (n := 0) (Nat.le_of_ble_eq_true rfl) (Nat.le_of_ble_eq_true rfl) ?_
                    exact W.iret (v := 0) hx hb hr (fun t ht0 hW => ⟨⟨0, upd zI0 0 2, rfl, (show zS_step p0 p1 p2 2 0 from (.inr ⟨rfl, by omega⟩)), (zE_of hP9 hK9 hD9 ht0 hW)⟩, hS.F ht0⟩) hS.2.2 dX12_step_108
                  · skip
                    exact absurd c_19 (by decide)
              · skip
                exact absurd c_13 (by decide)
          · skip
            exact absurd c_6 (by decide)
      · skip
        refine lv_if_eq (tgt := 19) hx hb dX12_step_12 (by decide) (fun c_20 => ?_) (fun c_20 => ?_)
        · skip
          refine lv_iconst (v := 0) hx hb dX12_step_19 (by decide) ?_
          have hPc := hP.sub (ws' := [((a 0), .inr (12, zMo a zI0))]) [0] rfl
          have hDc := hD.sub (ws' := [((a 0), .inr (12, zMo a zI0))]) [0] (by decide) rfl
          have hKc := hK.sub (tys' := []) [] rfl
          have hFc := va_free (wc := [((a 0), .inr (12, zMo a zI0))]) hD hS hA [0] rfl
          refine va_calli (va_runV (As := [.int 0]) (rest := []) ⟨hx, hb, hml, hown, ht⟩ (k_X12_lacks l _ D a zI0 0 (by decide)) (cwV 1 ht (zG_V zw_62 zw_63 zw_64 zw_2 zw_65) rfl rfl rfl (by decide +kernel) ⟨Nat.le_of_ble_eq_true rfl, Nat.le_of_ble_eq_true rfl⟩) (zM_V (va_recv hK hP (ci := 12) (q0 := 0) rfl rfl) hPc hKc hDc) rfl rfl hl.1 rfl (lv_room (Nat.le_of_ble_eq_true rfl)) dX12_step_20 ⟨Nat.le_of_ble_eq_true rfl, Nat.le_of_ble_eq_true rfl⟩) hS (fun q _ h => hFc q h) hFc (fun r_21 u_21 t H1 locs ht0 hvm hw_21 hB hz1 hk1 hS => ?_)
          obtain ⟨rfl, rfl⟩ := hw_21.1 rfl
          obtain ⟨hP1, hK1, hD1⟩ := hB
          rw [ht0] at hP1
          have hK1 := va_K.moved hvm.symm hK1
          obtain ⟨hP, hD⟩ := va_join (wr := [((a 1), .inl (cI, 6792, .inl zI0))]) (w1 := [((a 0), .inr (12, zMo a (upd zI0 0 1)))]) hP hD [0] [1] rfl rfl (by decide) (by decide) hk1 hFc hP1 hD1
          generalize H1 = H at hP hS ⊢
          have hP : va_P D vwCl [((a 1), .inl (cI, 6792, .inl zI0)), ((a 0), .inr (12, zMo a (upd zI0 0 1)))] H := hP
          have hD : va_D A [((a 1), .inl (cI, 6792, .inl zI0)), ((a 0), .inr (12, zMo a (upd zI0 0 1)))] := hD
          refine lv_if_eq (tgt := 28) hx hb dX12_step_23 (by decide) (fun c_22 => ?_) (fun c_22 => ?_)
          · skip
            exact absurd c_22 (by decide)
          · skip
            refine lv_iconst (v := 0) hx hb dX12_step_26 (by decide) ?_
            have hP9 := hP.sub (ws' := [((a 0), .inr (12, zMo a (upd zI0 0 1)))]) [1] rfl
            have hD9 := hD.sub (ws' := [((a 0), .inr (12, zMo a (upd zI0 0 1)))]) [1] (by decide) rfl
            have hK9 := hK.sub (tys' := []) [] rfl
            refine W.widen (k := 0) (n := 0) (Nat.le_of_ble_eq_true rfl) (Nat.le_of_ble_eq_true rfl) ?_
            exact W.iret (v := 0) hx hb hr (fun t ht0 hW => ⟨⟨0, upd zI0 0 1, rfl, (show zS_step p0 p1 p2 1 0 from (.inl ⟨rfl, by omega⟩)), (zE_of hP9 hK9 hD9 ht0 hW)⟩, hS.F ht0⟩) hS.2.2 dX12_step_27
        · skip
          exact absurd c_20 (by decide)
  · skip
    refine lv_if_eq (tgt := 19) hx hb dX12_step_5 (by decide) (fun c_23 => ?_) (fun c_23 => ?_)
    · skip
      refine lv_iconst (v := 0) hx hb dX12_step_19 (by decide) ?_
      have hPc := hP.sub (ws' := [((a 0), .inr (12, zMo a zI0))]) [0] rfl
      have hDc := hD.sub (ws' := [((a 0), .inr (12, zMo a zI0))]) [0] (by decide) rfl
      have hKc := hK.sub (tys' := []) [] rfl
      have hFc := va_free (wc := [((a 0), .inr (12, zMo a zI0))]) hD hS hA [0] rfl
      refine va_calli (va_runV (As := [.int 0]) (rest := []) ⟨hx, hb, hml, hown, ht⟩ (k_X12_lacks l _ D a zI0 0 (by decide)) (cwV 1 ht (zG_V zw_62 zw_63 zw_64 zw_2 zw_65) rfl rfl rfl (by decide +kernel) ⟨Nat.le_of_ble_eq_true rfl, Nat.le_of_ble_eq_true rfl⟩) (zM_V (va_recv hK hP (ci := 12) (q0 := 0) rfl rfl) hPc hKc hDc) rfl rfl hl.1 rfl (lv_room (Nat.le_of_ble_eq_true rfl)) dX12_step_20 ⟨Nat.le_of_ble_eq_true rfl, Nat.le_of_ble_eq_true rfl⟩) hS (fun q _ h => hFc q h) hFc (fun r_24 u_24 t H1 locs ht0 hvm hw_24 hB hz1 hk1 hS => ?_)
      obtain ⟨rfl, rfl⟩ := hw_24.1 rfl
      obtain ⟨hP1, hK1, hD1⟩ := hB
      rw [ht0] at hP1
      have hK1 := va_K.moved hvm.symm hK1
      obtain ⟨hP, hD⟩ := va_join (wr := [((a 1), .inl (cI, 6792, .inl zI0))]) (w1 := [((a 0), .inr (12, zMo a (upd zI0 0 1)))]) hP hD [0] [1] rfl rfl (by decide) (by decide) hk1 hFc hP1 hD1
      generalize H1 = H at hP hS ⊢
      have hP : va_P D vwCl [((a 1), .inl (cI, 6792, .inl zI0)), ((a 0), .inr (12, zMo a (upd zI0 0 1)))] H := hP
      have hD : va_D A [((a 1), .inl (cI, 6792, .inl zI0)), ((a 0), .inr (12, zMo a (upd zI0 0 1)))] := hD
      refine lv_if_eq (tgt := 28) hx hb dX12_step_23 (by decide) (fun c_25 => ?_) (fun c_25 => ?_)
      · skip
        exact absurd c_25 (by decide)
      · skip
        refine lv_iconst (v := 0) hx hb dX12_step_26 (by decide) ?_
        have hP9 := hP.sub (ws' := [((a 0), .inr (12, zMo a (upd zI0 0 1)))]) [1] rfl
        have hD9 := hD.sub (ws' := [((a 0), .inr (12, zMo a (upd zI0 0 1)))]) [1] (by decide) rfl
        have hK9 := hK.sub (tys' := []) [] rfl
        refine W.widen (k := 0) (n := 0) (Nat.le_of_ble_eq_true rfl) (Nat.le_of_ble_eq_true rfl) ?_
        exact W.iret (v := 0) hx hb hr (fun t ht0 hW => ⟨⟨0, upd zI0 0 1, rfl, (show zS_step p0 p1 p2 1 0 from (.inl ⟨rfl, by omega⟩)), (zE_of hP9 hK9 hD9 ht0 hW)⟩, hS.F ht0⟩) hS.2.2 dX12_step_27
    · skip
      exact absurd c_23 (by decide)
set_option maxHeartbeats 4000000 in
set_option maxRecDepth 100000 in
theorem k_X12_join (l : Launch) (sz : Nat) (D : va_G) (a : Nat → Nat) (cI : ClassId) (p0 p1 p2 : Int32) : Met l yX12_join (.code yX12_join cX12_join 11 (some .int) :: zT) ({ frames := 2, cells := 0, slots := 0, locals := 43 }) (va_Pc [.ref (a 0), .int p0, .int p1, .int p2] (zM D [((a 0), .inr (12, zMo a zI0)), ((a 1), .inl (cI, 6792, .inl zI0))] [(cI, .int)] sz)) (va_Qi (fun (r : Int32) (u : Nat → Int32) => zS_join p0 p1 p2 (u 0) r) (fun u t => zE D [(a 0, .inr (12, zMo a u))] [] (va_A [((a 0), .inr (12, zMo a zI0)), ((a 1), .inl (cI, 6792, .inl zI0))] sz) t) (va_A [((a 0), .inr (12, zMo a zI0)), ((a 1), .inl (cI, 6792, .inl zI0))] sz)) 0 0 (va_A [((a 0), .inr (12, zMo a zI0)), ((a 1), .inl (cI, 6792, .inl zI0))] sz) := by
  refine Met.ofW (cc := cX12_join) (maxL := 11) (ret := (some .int)) (by decide) rfl ?_
  intro p e s m args below meth c s₁ B hml hv
  obtain ⟨rfl, hsz, hP, hK, hD0⟩ := hv
  have hx := B.exec
  have hb := B.bytes
  have hr := B.returns
  have hts := atoms_spec (ws := (.code yX12_join cX12_join 11 (some .int) :: zT)) B.pre
  have ht : ∀ w ∈ zT, w.before _ s = true := fun w h => hts w (List.mem_cons_of_mem _ h)
  have hown : s.vm.findClass RX12 = some m.cls := findClass_of_methodNamed B.named
  have hlocks := B.notSynchronized
  subst hsz
  have hD := hD0.self (sz := s.heap.size)
  generalize hAe : va_A [((a 0), .inr (12, zMo a zI0)), ((a 1), .inl (cI, 6792, .inl zI0))] s.heap.size = A at hD ⊢
  have hA : ∀ q : Nat, s.heap.size ≤ q → A q := fun q h => by rw [← hAe]; exact Or.inr h
  have hS : va_S A s.heap s.heap [] := va_S.rf
  have hP : va_P D vwCl [((a 0), .inr (12, zMo a zI0)), ((a 1), .inl (cI, 6792, .inl zI0))] s.heap := hP
  have hl := lv_entry ([.ref (a 0), .int p0, .int p1, .int p2]) (n := 11) (Nat.le_of_ble_eq_true rfl)
  rw [lg_entry_eq]
  generalize (lg_sl ([.ref (a 0), .int p0, .int p1, .int p2]) ++ List.replicate (11 - (lg_sl ([.ref (a 0), .int p0, .int p1, .int p2])).length) Slot.unset).toArray = ls at hl ⊢
  have hl : lv_has ls 11 [(0, .ref (a 0)), (1, .int p0), (2, .int p1), (3, .int p2)] := hl
  skip
  refine lv_aload_n hx hb dX12_join_0 rfl (lv_at hl 0 rfl) ?_
  refine lv_iload_n hx hb dX12_join_1 rfl (lv_at hl 1 rfl) ?_
  refine vp_callSi (va_runS (As := [.int p0]) (rest := [.ref (a 0)]) ⟨hx, hb, hml, hown, ht⟩ (k_X12_isChain l p0) (va_cwS 1 ht (zG_S zw_77 zw_78 zw_2 zw_79) rfl rfl rfl (by decide +kernel) ⟨Nat.le_of_ble_eq_true rfl, Nat.le_of_ble_eq_true rfl⟩) zN_S rfl rfl hl.1 rfl (lv_room (Nat.le_of_ble_eq_true rfl)) dX12_join_2 ⟨Nat.le_of_ble_eq_true rfl, Nat.le_of_ble_eq_true rfl⟩).run (fun r_1 hw_1 => ?_)
  rcases hw_1 with ⟨rfl, h_1⟩ | ⟨rfl, h_1⟩
  · skip
    refine lv_if_eq (tgt := 26) hx hb dX12_join_5 (by decide) (fun c_2 => ?_) (fun c_2 => ?_)
    · skip
      exact absurd c_2 (by decide)
    · skip
      refine lv_iload_n hx hb dX12_join_8 rfl (lv_at hl 2 rfl) ?_
      refine vp_callSi (va_runS (As := [.int p1]) (rest := [.ref (a 0)]) ⟨hx, hb, hml, hown, ht⟩ (k_X12_isChain l p1) (va_cwS 1 ht (zG_S zw_77 zw_78 zw_2 zw_79) rfl rfl rfl (by decide +kernel) ⟨Nat.le_of_ble_eq_true rfl, Nat.le_of_ble_eq_true rfl⟩) zN_S rfl rfl hl.1 rfl (lv_room (Nat.le_of_ble_eq_true rfl)) dX12_join_9 ⟨Nat.le_of_ble_eq_true rfl, Nat.le_of_ble_eq_true rfl⟩).run (fun r_3 hw_3 => ?_)
      rcases hw_3 with ⟨rfl, h_3⟩ | ⟨rfl, h_3⟩
      · skip
        refine lv_if_eq (tgt := 26) hx hb dX12_join_12 (by decide) (fun c_4 => ?_) (fun c_4 => ?_)
        · skip
          exact absurd c_4 (by decide)
        · skip
          refine lv_iload_n hx hb dX12_join_15 rfl (lv_at hl 3 rfl) ?_
          refine vp_callSi (va_runS (As := [.int p2]) (rest := [.ref (a 0)]) ⟨hx, hb, hml, hown, ht⟩ (k_X12_isChain l p2) (va_cwS 1 ht (zG_S zw_77 zw_78 zw_2 zw_79) rfl rfl rfl (by decide +kernel) ⟨Nat.le_of_ble_eq_true rfl, Nat.le_of_ble_eq_true rfl⟩) zN_S rfl rfl hl.1 rfl (lv_room (Nat.le_of_ble_eq_true rfl)) dX12_join_16 ⟨Nat.le_of_ble_eq_true rfl, Nat.le_of_ble_eq_true rfl⟩).run (fun r_5 hw_5 => ?_)
          rcases hw_5 with ⟨rfl, h_5⟩ | ⟨rfl, h_5⟩
          · skip
            refine lv_if_eq (tgt := 26) hx hb dX12_join_19 (by decide) (fun c_6 => ?_) (fun c_6 => ?_)
            · skip
              exact absurd c_6 (by decide)
            · skip
              refine lv_iconst (v := 1) hx hb dX12_join_22 (by decide) ?_
              refine lv_goto (tgt := 27) hx hb dX12_join_23 (by decide) ?_
              have hPc := hP.sub (ws' := [((a 0), .inr (12, zMo a zI0))]) [0] rfl
              have hDc := hD.sub (ws' := [((a 0), .inr (12, zMo a zI0))]) [0] (by decide) rfl
              have hKc := hK.sub (tys' := []) [] rfl
              have hFc := va_free (wc := [((a 0), .inr (12, zMo a zI0))]) hD hS hA [0] rfl
              refine va_calli (va_runV (As := [.int 1]) (rest := []) ⟨hx, hb, hml, hown, ht⟩ (k_X12_lacks l _ D a zI0 1 (by decide)) (cwV 1 ht (zG_V zw_62 zw_63 zw_64 zw_2 zw_65) rfl rfl rfl (by decide +kernel) ⟨Nat.le_of_ble_eq_true rfl, Nat.le_of_ble_eq_true rfl⟩) (zM_V (va_recv hK hP (ci := 12) (q0 := 0) rfl rfl) hPc hKc hDc) rfl rfl hl.1 rfl (lv_room (Nat.le_of_ble_eq_true rfl)) dX12_join_27 ⟨Nat.le_of_ble_eq_true rfl, Nat.le_of_ble_eq_true rfl⟩) hS (fun q _ h => hFc q h) hFc (fun r_7 u_7 t H1 locs ht0 hvm hw_7 hB hz1 hk1 hS => ?_)
              obtain ⟨rfl, rfl⟩ := hw_7.2 (by decide)
              obtain ⟨hP1, hK1, hD1⟩ := hB
              rw [ht0] at hP1
              have hK1 := va_K.moved hvm.symm hK1
              obtain ⟨hP, hD⟩ := va_join (wr := [((a 1), .inl (cI, 6792, .inl zI0))]) (w1 := [((a 0), .inr (12, zMo a (upd zI0 0 0)))]) hP hD [0] [1] rfl rfl (by decide) (by decide) hk1 hFc hP1 hD1
              generalize H1 = H at hP hS ⊢
              have hP : va_P D vwCl [((a 1), .inl (cI, 6792, .inl zI0)), ((a 0), .inr (12, zMo a (upd zI0 0 0)))] H := hP
              have hD : va_D A [((a 1), .inl (cI, 6792, .inl zI0)), ((a 0), .inr (12, zMo a (upd zI0 0 0)))] := hD
              refine lv_if_eq (tgt := 35) hx hb dX12_join_30 (by decide) (fun c_8 => ?_) (fun c_8 => ?_)
              · skip
                refine lv_aload_n hx hb dX12_join_35 rfl (lv_at hl 0 rfl) ?_
                refine lv_iload_n hx hb dX12_join_36 rfl (lv_at hl 1 rfl) ?_
                refine vp_callSi (va_runV (As := [.int p0]) (rest := []) ⟨hx, hb, hml, hown, ht⟩ (k_X12_linesOf l D a (upd zI0 0 0) cI p0 h_1) (cwV 1 ht (zG_V zw_47 zw_48 zw_49 zw_2 zw_50) rfl rfl rfl (by decide +kernel) ⟨Nat.le_of_ble_eq_true rfl, Nat.le_of_ble_eq_true rfl⟩) (zR_V (va_recv hK hP (ci := 12) (q0 := 1) rfl rfl) (hP.sub (ws' := [((a 0), .inr (12, zMo a (upd zI0 0 0))), ((a 1), .inl (cI, 6792, .inl zI0))]) [1, 0] rfl) hK) rfl rfl hl.1 rfl (lv_room (Nat.le_of_ble_eq_true rfl)) dX12_join_37 ⟨Nat.le_of_ble_eq_true rfl, Nat.le_of_ble_eq_true rfl⟩).run (fun r_9 hw_9 => ?_)
                obtain rfl : r_9 = 0 := hw_9
                refine lv_istore (lv' := [(4, .int 0), (0, .ref (a 0)), (1, .int p0), (2, .int p1), (3, .int p2)]) hx hb dX12_join_40 hl (by decide) rfl (fun ls hl => ?_)
                refine lv_aload_n hx hb dX12_join_42 rfl (lv_at hl 1 rfl) ?_
                refine lv_iload_n hx hb dX12_join_43 rfl (lv_at hl 3 rfl) ?_
                refine vp_callSi (va_runV (As := [.int p1]) (rest := []) ⟨hx, hb, hml, hown, ht⟩ (k_X12_linesOf l D a (upd zI0 0 0) cI p1 h_3) (cwV 1 ht (zG_V zw_47 zw_48 zw_49 zw_2 zw_50) rfl rfl rfl (by decide +kernel) ⟨Nat.le_of_ble_eq_true rfl, Nat.le_of_ble_eq_true rfl⟩) (zR_V (va_recv hK hP (ci := 12) (q0 := 1) rfl rfl) (hP.sub (ws' := [((a 0), .inr (12, zMo a (upd zI0 0 0))), ((a 1), .inl (cI, 6792, .inl zI0))]) [1, 0] rfl) hK) rfl rfl hl.1 rfl (lv_room (Nat.le_of_ble_eq_true rfl)) dX12_join_44 ⟨Nat.le_of_ble_eq_true rfl, Nat.le_of_ble_eq_true rfl⟩).run (fun r_10 hw_10 => ?_)
                obtain rfl : r_10 = 0 := hw_10
                refine lv_istore (lv' := [(5, .int 0), (4, .int 0), (0, .ref (a 0)), (1, .int p0), (2, .int p1), (3, .int p2)]) hx hb dX12_join_47 hl (by decide) rfl (fun ls hl => ?_)
                refine lv_aload_n hx hb dX12_join_49 rfl (lv_at hl 2 rfl) ?_
                refine lv_iload hx hb dX12_join_50 (lv_at hl 1 rfl) ?_
                refine lv_if_le (tgt := 76) hx hb dX12_join_52 (by decide) (fun c_11 => ?_) (fun c_11 => ?_)
                · skip
                  refine lv_iconst (v := 0) hx hb dX12_join_76 (by decide) ?_
                  refine lv_iconst (v := 2) hx hb dX12_join_77 (by decide) ?_
                  have hPc := hP.sub (ws' := [((a 0), .inr (12, zMo a (upd zI0 0 0)))]) [1] rfl
                  have hDc := hD.sub (ws' := [((a 0), .inr (12, zMo a (upd zI0 0 0)))]) [1] (by decide) rfl
                  have hKc := hK.sub (tys' := []) [] rfl
                  have hFc := va_free (wc := [((a 0), .inr (12, zMo a (upd zI0 0 0)))]) hD hS hA [1] rfl
                  refine va_calli (va_runV (As := [.int 0, .int 2]) (rest := []) ⟨hx, hb, hml, hown, ht⟩ (k_X12_no l _ D a (upd zI0 0 0) 0 2 (by decide)) (cwV 2 ht (zG_V zw_30 zw_31 zw_32 zw_2 zw_33) rfl rfl rfl (by decide +kernel) ⟨Nat.le_of_ble_eq_true rfl, Nat.le_of_ble_eq_true rfl⟩) (zM_V (va_recv hK hP (ci := 12) (q0 := 1) rfl rfl) hPc hKc hDc) rfl rfl hl.1 rfl (lv_room (Nat.le_of_ble_eq_true rfl)) dX12_join_78 ⟨Nat.le_of_ble_eq_true rfl, Nat.le_of_ble_eq_true rfl⟩) hS (fun q _ h => hFc q h) hFc (fun r_12 u_12 t H1 locs ht0 hvm hw_12 hB hz1 hk1 hS => ?_)
                  obtain ⟨rfl, rfl⟩ := hw_12.1 rfl
                  obtain ⟨hP1, hK1, hD1⟩ := hB
                  rw [ht0] at hP1
                  have hK1 := va_K.moved hvm.symm hK1
                  obtain ⟨hP, hD⟩ := va_join (wr := [((a 1), .inl (cI, 6792, .inl zI0))]) (w1 := [((a 0), .inr (12, zMo a (upd zI0 0 2)))]) hP hD [1] [0] rfl rfl (by decide) (by decide) hk1 hFc hP1 hD1
                  generalize H1 = H at hP hS ⊢
                  have hP : va_P D vwCl [((a 1), .inl (cI, 6792, .inl zI0)), ((a 0), .inr (12, zMo a (upd zI0 0 2)))] H := hP
                  have hD : va_D A [((a 1), .inl (cI, 6792, .inl zI0)), ((a 0), .inr (12, zMo a (upd zI0 0 2)))] := hD
                  refine lv_if_eq (tgt := 86) hx hb dX12_join_81 (by decide) (fun c_13 => ?_) (fun c_13 => ?_)
                  · skip
                    exact absurd c_13 (by decide)
                  · skip
                    refine lv_iconst (v := 0) hx hb dX12_join_84 (by decide) ?_
                    have hP9 := hP.sub (ws' := [((a 0), .inr (12, zMo a (upd zI0 0 2)))]) [1] rfl
                    have hD9 := hD.sub (ws' := [((a 0), .inr (12, zMo a (upd zI0 0 2)))]) [1] (by decide) rfl
                    have hK9 := hK.sub (tys' := []) [] rfl
                    refine W.widen (k := 0) (n := 0) (Nat.le_of_ble_eq_true rfl) (Nat.le_of_ble_eq_true rfl) ?_
                    exact W.iret (v := 0) hx hb hr (fun t ht0 hW => ⟨⟨0, upd zI0 0 2, rfl, (show zS_join p0 p1 p2 2 0 from (.inr ⟨rfl, by omega⟩)), (zE_of hP9 hK9 hD9 ht0 hW)⟩, hS.F ht0⟩) hS.2.2 dX12_join_85
                · skip
                  exact absurd c_11 (by decide)
              · skip
                exact absurd c_8 (by decide)
          · skip
            refine lv_if_eq (tgt := 26) hx hb dX12_join_19 (by decide) (fun c_14 => ?_) (fun c_14 => ?_)
            · skip
              refine lv_iconst (v := 0) hx hb dX12_join_26 (by decide) ?_
              have hPc := hP.sub (ws' := [((a 0), .inr (12, zMo a zI0))]) [0] rfl
              have hDc := hD.sub (ws' := [((a 0), .inr (12, zMo a zI0))]) [0] (by decide) rfl
              have hKc := hK.sub (tys' := []) [] rfl
              have hFc := va_free (wc := [((a 0), .inr (12, zMo a zI0))]) hD hS hA [0] rfl
              refine va_calli (va_runV (As := [.int 0]) (rest := []) ⟨hx, hb, hml, hown, ht⟩ (k_X12_lacks l _ D a zI0 0 (by decide)) (cwV 1 ht (zG_V zw_62 zw_63 zw_64 zw_2 zw_65) rfl rfl rfl (by decide +kernel) ⟨Nat.le_of_ble_eq_true rfl, Nat.le_of_ble_eq_true rfl⟩) (zM_V (va_recv hK hP (ci := 12) (q0 := 0) rfl rfl) hPc hKc hDc) rfl rfl hl.1 rfl (lv_room (Nat.le_of_ble_eq_true rfl)) dX12_join_27 ⟨Nat.le_of_ble_eq_true rfl, Nat.le_of_ble_eq_true rfl⟩) hS (fun q _ h => hFc q h) hFc (fun r_15 u_15 t H1 locs ht0 hvm hw_15 hB hz1 hk1 hS => ?_)
              obtain ⟨rfl, rfl⟩ := hw_15.1 rfl
              obtain ⟨hP1, hK1, hD1⟩ := hB
              rw [ht0] at hP1
              have hK1 := va_K.moved hvm.symm hK1
              obtain ⟨hP, hD⟩ := va_join (wr := [((a 1), .inl (cI, 6792, .inl zI0))]) (w1 := [((a 0), .inr (12, zMo a (upd zI0 0 1)))]) hP hD [0] [1] rfl rfl (by decide) (by decide) hk1 hFc hP1 hD1
              generalize H1 = H at hP hS ⊢
              have hP : va_P D vwCl [((a 1), .inl (cI, 6792, .inl zI0)), ((a 0), .inr (12, zMo a (upd zI0 0 1)))] H := hP
              have hD : va_D A [((a 1), .inl (cI, 6792, .inl zI0)), ((a 0), .inr (12, zMo a (upd zI0 0 1)))] := hD
              refine lv_if_eq (tgt := 35) hx hb dX12_join_30 (by decide) (fun c_16 => ?_) (fun c_16 => ?_)
              · skip
                exact absurd c_16 (by decide)
              · skip
                refine lv_iconst (v := 0) hx hb dX12_join_33 (by decide) ?_
                have hP9 := hP.sub (ws' := [((a 0), .inr (12, zMo a (upd zI0 0 1)))]) [1] rfl
                have hD9 := hD.sub (ws' := [((a 0), .inr (12, zMo a (upd zI0 0 1)))]) [1] (by decide) rfl
                have hK9 := hK.sub (tys' := []) [] rfl
                refine W.widen (k := 0) (n := 0) (Nat.le_of_ble_eq_true rfl) (Nat.le_of_ble_eq_true rfl) ?_
                exact W.iret (v := 0) hx hb hr (fun t ht0 hW => ⟨⟨0, upd zI0 0 1, rfl, (show zS_join p0 p1 p2 1 0 from (.inl ⟨rfl, by omega⟩)), (zE_of hP9 hK9 hD9 ht0 hW)⟩, hS.F ht0⟩) hS.2.2 dX12_join_34
            · skip
              exact absurd c_14 (by decide)
      · skip
        refine lv_if_eq (tgt := 26) hx hb dX12_join_12 (by decide) (fun c_17 => ?_) (fun c_17 => ?_)
        · skip
          refine lv_iconst (v := 0) hx hb dX12_join_26 (by decide) ?_
          have hPc := hP.sub (ws' := [((a 0), .inr (12, zMo a zI0))]) [0] rfl
          have hDc := hD.sub (ws' := [((a 0), .inr (12, zMo a zI0))]) [0] (by decide) rfl
          have hKc := hK.sub (tys' := []) [] rfl
          have hFc := va_free (wc := [((a 0), .inr (12, zMo a zI0))]) hD hS hA [0] rfl
          refine va_calli (va_runV (As := [.int 0]) (rest := []) ⟨hx, hb, hml, hown, ht⟩ (k_X12_lacks l _ D a zI0 0 (by decide)) (cwV 1 ht (zG_V zw_62 zw_63 zw_64 zw_2 zw_65) rfl rfl rfl (by decide +kernel) ⟨Nat.le_of_ble_eq_true rfl, Nat.le_of_ble_eq_true rfl⟩) (zM_V (va_recv hK hP (ci := 12) (q0 := 0) rfl rfl) hPc hKc hDc) rfl rfl hl.1 rfl (lv_room (Nat.le_of_ble_eq_true rfl)) dX12_join_27 ⟨Nat.le_of_ble_eq_true rfl, Nat.le_of_ble_eq_true rfl⟩) hS (fun q _ h => hFc q h) hFc (fun r_18 u_18 t H1 locs ht0 hvm hw_18 hB hz1 hk1 hS => ?_)
          obtain ⟨rfl, rfl⟩ := hw_18.1 rfl
          obtain ⟨hP1, hK1, hD1⟩ := hB
          rw [ht0] at hP1
          have hK1 := va_K.moved hvm.symm hK1
          obtain ⟨hP, hD⟩ := va_join (wr := [((a 1), .inl (cI, 6792, .inl zI0))]) (w1 := [((a 0), .inr (12, zMo a (upd zI0 0 1)))]) hP hD [0] [1] rfl rfl (by decide) (by decide) hk1 hFc hP1 hD1
          generalize H1 = H at hP hS ⊢
          have hP : va_P D vwCl [((a 1), .inl (cI, 6792, .inl zI0)), ((a 0), .inr (12, zMo a (upd zI0 0 1)))] H := hP
          have hD : va_D A [((a 1), .inl (cI, 6792, .inl zI0)), ((a 0), .inr (12, zMo a (upd zI0 0 1)))] := hD
          refine lv_if_eq (tgt := 35) hx hb dX12_join_30 (by decide) (fun c_19 => ?_) (fun c_19 => ?_)
          · skip
            exact absurd c_19 (by decide)
          · skip
            refine lv_iconst (v := 0) hx hb dX12_join_33 (by decide) ?_
            have hP9 := hP.sub (ws' := [((a 0), .inr (12, zMo a (upd zI0 0 1)))]) [1] rfl
            have hD9 := hD.sub (ws' := [((a 0), .inr (12, zMo a (upd zI0 0 1)))]) [1] (by decide) rfl
            have hK9 := hK.sub (tys' := []) [] rfl
            refine W.widen (k := 0) (n := 0) (Nat.le_of_ble_eq_true rfl) (Nat.le_of_ble_eq_true rfl) ?_
            exact W.iret (v := 0) hx hb hr (fun t ht0 hW => ⟨⟨0, upd zI0 0 1, rfl, (show zS_join p0 p1 p2 1 0 from (.inl ⟨rfl, by omega⟩)), (zE_of hP9 hK9 hD9 ht0 hW)⟩, hS.F ht0⟩) hS.2.2 dX12_join_34
        · skip
          exact absurd c_17 (by decide)
  · skip
    refine lv_if_eq (tgt := 26) hx hb dX12_join_5 (by decide) (fun c_20 => ?_) (fun c_20 => ?_)
    · skip
      refine lv_iconst (v := 0) hx hb dX12_join_26 (by decide) ?_
      have hPc := hP.sub (ws' := [((a 0), .inr (12, zMo a zI0))]) [0] rfl
      have hDc := hD.sub (ws' := [((a 0), .inr (12, zMo a zI0))]) [0] (by decide) rfl
      have hKc := hK.sub (tys' := []) [] rfl
      have hFc := va_free (wc := [((a 0), .inr (12, zMo a zI0))]) hD hS hA [0] rfl
      refine va_calli (va_runV (As := [.int 0]) (rest := []) ⟨hx, hb, hml, hown, ht⟩ (k_X12_lacks l _ D a zI0 0 (by decide)) (cwV 1 ht (zG_V zw_62 zw_63 zw_64 zw_2 zw_65) rfl rfl rfl (by decide +kernel) ⟨Nat.le_of_ble_eq_true rfl, Nat.le_of_ble_eq_true rfl⟩) (zM_V (va_recv hK hP (ci := 12) (q0 := 0) rfl rfl) hPc hKc hDc) rfl rfl hl.1 rfl (lv_room (Nat.le_of_ble_eq_true rfl)) dX12_join_27 ⟨Nat.le_of_ble_eq_true rfl, Nat.le_of_ble_eq_true rfl⟩) hS (fun q _ h => hFc q h) hFc (fun r_21 u_21 t H1 locs ht0 hvm hw_21 hB hz1 hk1 hS => ?_)
      obtain ⟨rfl, rfl⟩ := hw_21.1 rfl
      obtain ⟨hP1, hK1, hD1⟩ := hB
      rw [ht0] at hP1
      have hK1 := va_K.moved hvm.symm hK1
      obtain ⟨hP, hD⟩ := va_join (wr := [((a 1), .inl (cI, 6792, .inl zI0))]) (w1 := [((a 0), .inr (12, zMo a (upd zI0 0 1)))]) hP hD [0] [1] rfl rfl (by decide) (by decide) hk1 hFc hP1 hD1
      generalize H1 = H at hP hS ⊢
      have hP : va_P D vwCl [((a 1), .inl (cI, 6792, .inl zI0)), ((a 0), .inr (12, zMo a (upd zI0 0 1)))] H := hP
      have hD : va_D A [((a 1), .inl (cI, 6792, .inl zI0)), ((a 0), .inr (12, zMo a (upd zI0 0 1)))] := hD
      refine lv_if_eq (tgt := 35) hx hb dX12_join_30 (by decide) (fun c_22 => ?_) (fun c_22 => ?_)
      · skip
        exact absurd c_22 (by decide)
      · skip
        refine lv_iconst (v := 0) hx hb dX12_join_33 (by decide) ?_
        have hP9 := hP.sub (ws' := [((a 0), .inr (12, zMo a (upd zI0 0 1)))]) [1] rfl
        have hD9 := hD.sub (ws' := [((a 0), .inr (12, zMo a (upd zI0 0 1)))]) [1] (by decide) rfl
        have hK9 := hK.sub (tys' := []) [] rfl
        refine W.widen (k := 0) (n := 0) (Nat.le_of_ble_eq_true rfl) (Nat.le_of_ble_eq_true rfl) ?_
        exact W.iret (v := 0) hx hb hr (fun t ht0 hW => ⟨⟨0, upd zI0 0 1, rfl, (show zS_join p0 p1 p2 1 0 from (.inl ⟨rfl, by omega⟩)), (zE_of hP9 hK9 hD9 ht0 hW)⟩, hS.F ht0⟩) hS.2.2 dX12_join_34
    · skip
      exact absurd c_20 (by decide)
set_option maxHeartbeats 4000000 in
set_option maxRecDepth 100000 in
theorem k_X12_cut (l : Launch) (sz : Nat) (D : va_G) (a : Nat → Nat) (cI : ClassId) (p0 p1 p2 p3 : Int32) : Met l yX12_cut (.code yX12_cut cX12_cut 8 (some .int) :: zT) ({ frames := 2, cells := 0, slots := 0, locals := 43 }) (va_Pc [.ref (a 0), .int p0, .int p1, .int p2, .int p3] (zM D [((a 0), .inr (12, zMo a zI0)), ((a 1), .inl (cI, 6792, .inl zI0))] [(cI, .int)] sz)) (va_Qi (fun (r : Int32) (u : Nat → Int32) => zS_cut p0 p1 p2 p3 (u 0) r) (fun u t => zE D [(a 0, .inr (12, zMo a u))] [] (va_A [((a 0), .inr (12, zMo a zI0)), ((a 1), .inl (cI, 6792, .inl zI0))] sz) t) (va_A [((a 0), .inr (12, zMo a zI0)), ((a 1), .inl (cI, 6792, .inl zI0))] sz)) 0 0 (va_A [((a 0), .inr (12, zMo a zI0)), ((a 1), .inl (cI, 6792, .inl zI0))] sz) := by
  refine Met.ofW (cc := cX12_cut) (maxL := 8) (ret := (some .int)) (by decide) rfl ?_
  intro p e s m args below meth c s₁ B hml hv
  obtain ⟨rfl, hsz, hP, hK, hD0⟩ := hv
  have hx := B.exec
  have hb := B.bytes
  have hr := B.returns
  have hts := atoms_spec (ws := (.code yX12_cut cX12_cut 8 (some .int) :: zT)) B.pre
  have ht : ∀ w ∈ zT, w.before _ s = true := fun w h => hts w (List.mem_cons_of_mem _ h)
  have hown : s.vm.findClass RX12 = some m.cls := findClass_of_methodNamed B.named
  have hlocks := B.notSynchronized
  subst hsz
  have hD := hD0.self (sz := s.heap.size)
  generalize hAe : va_A [((a 0), .inr (12, zMo a zI0)), ((a 1), .inl (cI, 6792, .inl zI0))] s.heap.size = A at hD ⊢
  have hA : ∀ q : Nat, s.heap.size ≤ q → A q := fun q h => by rw [← hAe]; exact Or.inr h
  have hS : va_S A s.heap s.heap [] := va_S.rf
  have hP : va_P D vwCl [((a 0), .inr (12, zMo a zI0)), ((a 1), .inl (cI, 6792, .inl zI0))] s.heap := hP
  have hl := lv_entry ([.ref (a 0), .int p0, .int p1, .int p2, .int p3]) (n := 8) (Nat.le_of_ble_eq_true rfl)
  rw [lg_entry_eq]
  generalize (lg_sl ([.ref (a 0), .int p0, .int p1, .int p2, .int p3]) ++ List.replicate (8 - (lg_sl ([.ref (a 0), .int p0, .int p1, .int p2, .int p3])).length) Slot.unset).toArray = ls at hl ⊢
  have hl : lv_has ls 8 [(0, .ref (a 0)), (1, .int p0), (2, .int p1), (3, .int p2), (4, .int p3)] := hl
  skip
  refine lv_aload_n hx hb dX12_cut_0 rfl (lv_at hl 0 rfl) ?_
  refine lv_iload_n hx hb dX12_cut_1 rfl (lv_at hl 1 rfl) ?_
  refine vp_callSi (va_runS (As := [.int p0]) (rest := [.ref (a 0)]) ⟨hx, hb, hml, hown, ht⟩ (k_X12_isChain l p0) (va_cwS 1 ht (zG_S zw_77 zw_78 zw_2 zw_79) rfl rfl rfl (by decide +kernel) ⟨Nat.le_of_ble_eq_true rfl, Nat.le_of_ble_eq_true rfl⟩) zN_S rfl rfl hl.1 rfl (lv_room (Nat.le_of_ble_eq_true rfl)) dX12_cut_2 ⟨Nat.le_of_ble_eq_true rfl, Nat.le_of_ble_eq_true rfl⟩).run (fun r_1 hw_1 => ?_)
  rcases hw_1 with ⟨rfl, h_1⟩ | ⟨rfl, h_1⟩
  · skip
    refine lv_if_eq (tgt := 20) hx hb dX12_cut_5 (by decide) (fun c_2 => ?_) (fun c_2 => ?_)
    · skip
      exact absurd c_2 (by decide)
    · skip
      refine lv_iload hx hb dX12_cut_8 (lv_at hl 4 rfl) ?_
      refine vp_callSi (va_runS (As := [.int p3]) (rest := [.ref (a 0)]) ⟨hx, hb, hml, hown, ht⟩ (k_X12_isChain l p3) (va_cwS 1 ht (zG_S zw_77 zw_78 zw_2 zw_79) rfl rfl rfl (by decide +kernel) ⟨Nat.le_of_ble_eq_true rfl, Nat.le_of_ble_eq_true rfl⟩) zN_S rfl rfl hl.1 rfl (lv_room (Nat.le_of_ble_eq_true rfl)) dX12_cut_10 ⟨Nat.le_of_ble_eq_true rfl, Nat.le_of_ble_eq_true rfl⟩).run (fun r_3 hw_3 => ?_)
      rcases hw_3 with ⟨rfl, h_3⟩ | ⟨rfl, h_3⟩
      · skip
        refine lv_if_eq (tgt := 20) hx hb dX12_cut_13 (by decide) (fun c_4 => ?_) (fun c_4 => ?_)
        · skip
          exact absurd c_4 (by decide)
        · skip
          refine lv_iconst (v := 1) hx hb dX12_cut_16 (by decide) ?_
          refine lv_goto (tgt := 21) hx hb dX12_cut_17 (by decide) ?_
          have hPc := hP.sub (ws' := [((a 0), .inr (12, zMo a zI0))]) [0] rfl
          have hDc := hD.sub (ws' := [((a 0), .inr (12, zMo a zI0))]) [0] (by decide) rfl
          have hKc := hK.sub (tys' := []) [] rfl
          have hFc := va_free (wc := [((a 0), .inr (12, zMo a zI0))]) hD hS hA [0] rfl
          refine va_calli (va_runV (As := [.int 1]) (rest := []) ⟨hx, hb, hml, hown, ht⟩ (k_X12_lacks l _ D a zI0 1 (by decide)) (cwV 1 ht (zG_V zw_62 zw_63 zw_64 zw_2 zw_65) rfl rfl rfl (by decide +kernel) ⟨Nat.le_of_ble_eq_true rfl, Nat.le_of_ble_eq_true rfl⟩) (zM_V (va_recv hK hP (ci := 12) (q0 := 0) rfl rfl) hPc hKc hDc) rfl rfl hl.1 rfl (lv_room (Nat.le_of_ble_eq_true rfl)) dX12_cut_21 ⟨Nat.le_of_ble_eq_true rfl, Nat.le_of_ble_eq_true rfl⟩) hS (fun q _ h => hFc q h) hFc (fun r_5 u_5 t H1 locs ht0 hvm hw_5 hB hz1 hk1 hS => ?_)
          obtain ⟨rfl, rfl⟩ := hw_5.2 (by decide)
          obtain ⟨hP1, hK1, hD1⟩ := hB
          rw [ht0] at hP1
          have hK1 := va_K.moved hvm.symm hK1
          obtain ⟨hP, hD⟩ := va_join (wr := [((a 1), .inl (cI, 6792, .inl zI0))]) (w1 := [((a 0), .inr (12, zMo a (upd zI0 0 0)))]) hP hD [0] [1] rfl rfl (by decide) (by decide) hk1 hFc hP1 hD1
          generalize H1 = H at hP hS ⊢
          have hP : va_P D vwCl [((a 1), .inl (cI, 6792, .inl zI0)), ((a 0), .inr (12, zMo a (upd zI0 0 0)))] H := hP
          have hD : va_D A [((a 1), .inl (cI, 6792, .inl zI0)), ((a 0), .inr (12, zMo a (upd zI0 0 0)))] := hD
          refine lv_if_ne (tgt := 88) hx hb dX12_cut_24 (by decide) (fun c_6 => ?_) (fun c_6 => ?_)
          · skip
            exact absurd c_6 (by decide)
          · skip
            refine lv_aload_n hx hb dX12_cut_27 rfl (lv_at hl 0 rfl) ?_
            refine lv_iload_n hx hb dX12_cut_28 rfl (lv_at hl 2 rfl) ?_
            refine lv_iconst (v := 0) hx hb dX12_cut_29 (by decide) ?_
            refine lv_aload_n hx hb dX12_cut_30 rfl (lv_at hl 0 rfl) ?_
            refine lv_iload_n hx hb dX12_cut_31 rfl (lv_at hl 1 rfl) ?_
            refine vp_callSi (va_runV (As := [.int p0]) (rest := [.int 0, .int p1, .ref (a 0)]) ⟨hx, hb, hml, hown, ht⟩ (k_X12_linesOf l D a (upd zI0 0 0) cI p0 h_1) (cwV 1 ht (zG_V zw_47 zw_48 zw_49 zw_2 zw_50) rfl rfl rfl (by decide +kernel) ⟨Nat.le_of_ble_eq_true rfl, Nat.le_of_ble_eq_true rfl⟩) (zR_V (va_recv hK hP (ci := 12) (q0 := 1) rfl rfl) (hP.sub (ws' := [((a 0), .inr (12, zMo a (upd zI0 0 0))), ((a 1), .inl (cI, 6792, .inl zI0))]) [1, 0] rfl) hK) rfl rfl hl.1 rfl (lv_room (Nat.le_of_ble_eq_true rfl)) dX12_cut_32 ⟨Nat.le_of_ble_eq_true rfl, Nat.le_of_ble_eq_true rfl⟩).run (fun r_7 hw_7 => ?_)
            obtain rfl : r_7 = 0 := hw_7
            refine lv_iconst (v := 1) hx hb dX12_cut_35 (by decide) ?_
            refine lv_isub hx hb dX12_cut_36 ?_
            refine lv_topi (fun x_8 e_8 => ?_)
            obtain rfl : x_8 = (-1) := e_8.trans (by decide)
            refine vp_callSi (va_runS (As := [.int p1, .int 0, .int (-1)]) (rest := [.ref (a 0)]) ⟨hx, hb, hml, hown, ht⟩ (k_X12_in l p1 0 (-1)) (va_cwS 3 ht (zG_S zw_0 zw_1 zw_2 zw_3) rfl rfl rfl (by decide +kernel) ⟨Nat.le_of_ble_eq_true rfl, Nat.le_of_ble_eq_true rfl⟩) zN_S rfl rfl hl.1 rfl (lv_room (Nat.le_of_ble_eq_true rfl)) dX12_cut_37 ⟨Nat.le_of_ble_eq_true rfl, Nat.le_of_ble_eq_true rfl⟩).run (fun r_9 hw_9 => ?_)
            rcases hw_9 with ⟨rfl, h_9⟩ | ⟨rfl, h_9⟩
            · skip
              simp only [Int32.reduceToInt] at h_9
              exfalso; omega
            · skip
              simp only [Int32.reduceToInt] at h_9
              refine lv_if_eq (tgt := 62) hx hb dX12_cut_40 (by decide) (fun c_10 => ?_) (fun c_10 => ?_)
              · skip
                refine lv_iconst (v := 0) hx hb dX12_cut_62 (by decide) ?_
                refine lv_iconst (v := 1) hx hb dX12_cut_63 (by decide) ?_
                have hPc := hP.sub (ws' := [((a 0), .inr (12, zMo a (upd zI0 0 0)))]) [1] rfl
                have hDc := hD.sub (ws' := [((a 0), .inr (12, zMo a (upd zI0 0 0)))]) [1] (by decide) rfl
                have hKc := hK.sub (tys' := []) [] rfl
                have hFc := va_free (wc := [((a 0), .inr (12, zMo a (upd zI0 0 0)))]) hD hS hA [1] rfl
                refine va_calli (va_runV (As := [.int 0, .int 1]) (rest := []) ⟨hx, hb, hml, hown, ht⟩ (k_X12_no l _ D a (upd zI0 0 0) 0 1 (by decide)) (cwV 2 ht (zG_V zw_30 zw_31 zw_32 zw_2 zw_33) rfl rfl rfl (by decide +kernel) ⟨Nat.le_of_ble_eq_true rfl, Nat.le_of_ble_eq_true rfl⟩) (zM_V (va_recv hK hP (ci := 12) (q0 := 1) rfl rfl) hPc hKc hDc) rfl rfl hl.1 rfl (lv_room (Nat.le_of_ble_eq_true rfl)) dX12_cut_64 ⟨Nat.le_of_ble_eq_true rfl, Nat.le_of_ble_eq_true rfl⟩) hS (fun q _ h => hFc q h) hFc (fun r_11 u_11 t H1 locs ht0 hvm hw_11 hB hz1 hk1 hS => ?_)
                obtain ⟨rfl, rfl⟩ := hw_11.1 rfl
                obtain ⟨hP1, hK1, hD1⟩ := hB
                rw [ht0] at hP1
                have hK1 := va_K.moved hvm.symm hK1
                obtain ⟨hP, hD⟩ := va_join (wr := [((a 1), .inl (cI, 6792, .inl zI0))]) (w1 := [((a 0), .inr (12, zMo a (upd zI0 0 1)))]) hP hD [1] [0] rfl rfl (by decide) (by decide) hk1 hFc hP1 hD1
                generalize H1 = H at hP hS ⊢
                have hP : va_P D vwCl [((a 1), .inl (cI, 6792, .inl zI0)), ((a 0), .inr (12, zMo a (upd zI0 0 1)))] H := hP
                have hD : va_D A [((a 1), .inl (cI, 6792, .inl zI0)), ((a 0), .inr (12, zMo a (upd zI0 0 1)))] := hD
                refine lv_if_ne (tgt := 88) hx hb dX12_cut_67 (by decide) (fun c_12 => ?_) (fun c_12 => ?_)
                · skip
                  refine lv_iconst (v := 0) hx hb dX12_cut_88 (by decide) ?_
                  have hP9 := hP.sub (ws' := [((a 0), .inr (12, zMo a (upd zI0 0 1)))]) [1] rfl
                  have hD9 := hD.sub (ws' := [((a 0), .inr (12, zMo a (upd zI0 0 1)))]) [1] (by decide) rfl
                  have hK9 := hK.sub (tys' := []) [] rfl
                  refine W.widen (k := 0) (n := 0) (Nat.le_of_ble_eq_true rfl) (Nat.le_of_ble_eq_true rfl) ?_
                  exact W.iret (v := 0) hx hb hr (fun t ht0 hW => ⟨⟨0, upd zI0 0 1, rfl, (show zS_cut p0 p1 p2 p3 1 0 from ⟨rfl, by trivial⟩), (zE_of hP9 hK9 hD9 ht0 hW)⟩, hS.F ht0⟩) hS.2.2 dX12_cut_89
                · skip
                  exact absurd c_12 (by decide)
              · skip
                exact absurd c_10 (by decide)
      · skip
        refine lv_if_eq (tgt := 20) hx hb dX12_cut_13 (by decide) (fun c_13 => ?_) (fun c_13 => ?_)
        · skip
          refine lv_iconst (v := 0) hx hb dX12_cut_20 (by decide) ?_
          have hPc := hP.sub (ws' := [((a 0), .inr (12, zMo a zI0))]) [0] rfl
          have hDc := hD.sub (ws' := [((a 0), .inr (12, zMo a zI0))]) [0] (by decide) rfl
          have hKc := hK.sub (tys' := []) [] rfl
          have hFc := va_free (wc := [((a 0), .inr (12, zMo a zI0))]) hD hS hA [0] rfl
          refine va_calli (va_runV (As := [.int 0]) (rest := []) ⟨hx, hb, hml, hown, ht⟩ (k_X12_lacks l _ D a zI0 0 (by decide)) (cwV 1 ht (zG_V zw_62 zw_63 zw_64 zw_2 zw_65) rfl rfl rfl (by decide +kernel) ⟨Nat.le_of_ble_eq_true rfl, Nat.le_of_ble_eq_true rfl⟩) (zM_V (va_recv hK hP (ci := 12) (q0 := 0) rfl rfl) hPc hKc hDc) rfl rfl hl.1 rfl (lv_room (Nat.le_of_ble_eq_true rfl)) dX12_cut_21 ⟨Nat.le_of_ble_eq_true rfl, Nat.le_of_ble_eq_true rfl⟩) hS (fun q _ h => hFc q h) hFc (fun r_14 u_14 t H1 locs ht0 hvm hw_14 hB hz1 hk1 hS => ?_)
          obtain ⟨rfl, rfl⟩ := hw_14.1 rfl
          obtain ⟨hP1, hK1, hD1⟩ := hB
          rw [ht0] at hP1
          have hK1 := va_K.moved hvm.symm hK1
          obtain ⟨hP, hD⟩ := va_join (wr := [((a 1), .inl (cI, 6792, .inl zI0))]) (w1 := [((a 0), .inr (12, zMo a (upd zI0 0 1)))]) hP hD [0] [1] rfl rfl (by decide) (by decide) hk1 hFc hP1 hD1
          generalize H1 = H at hP hS ⊢
          have hP : va_P D vwCl [((a 1), .inl (cI, 6792, .inl zI0)), ((a 0), .inr (12, zMo a (upd zI0 0 1)))] H := hP
          have hD : va_D A [((a 1), .inl (cI, 6792, .inl zI0)), ((a 0), .inr (12, zMo a (upd zI0 0 1)))] := hD
          refine lv_if_ne (tgt := 88) hx hb dX12_cut_24 (by decide) (fun c_15 => ?_) (fun c_15 => ?_)
          · skip
            refine lv_iconst (v := 0) hx hb dX12_cut_88 (by decide) ?_
            have hP9 := hP.sub (ws' := [((a 0), .inr (12, zMo a (upd zI0 0 1)))]) [1] rfl
            have hD9 := hD.sub (ws' := [((a 0), .inr (12, zMo a (upd zI0 0 1)))]) [1] (by decide) rfl
            have hK9 := hK.sub (tys' := []) [] rfl
            refine W.widen (k := 0) (n := 0) (Nat.le_of_ble_eq_true rfl) (Nat.le_of_ble_eq_true rfl) ?_
            exact W.iret (v := 0) hx hb hr (fun t ht0 hW => ⟨⟨0, upd zI0 0 1, rfl, (show zS_cut p0 p1 p2 p3 1 0 from ⟨rfl, by trivial⟩), (zE_of hP9 hK9 hD9 ht0 hW)⟩, hS.F ht0⟩) hS.2.2 dX12_cut_89
          · skip
            exact absurd c_15 (by decide)
        · skip
          exact absurd c_13 (by decide)
  · skip
    refine lv_if_eq (tgt := 20) hx hb dX12_cut_5 (by decide) (fun c_16 => ?_) (fun c_16 => ?_)
    · skip
      refine lv_iconst (v := 0) hx hb dX12_cut_20 (by decide) ?_
      have hPc := hP.sub (ws' := [((a 0), .inr (12, zMo a zI0))]) [0] rfl
      have hDc := hD.sub (ws' := [((a 0), .inr (12, zMo a zI0))]) [0] (by decide) rfl
      have hKc := hK.sub (tys' := []) [] rfl
      have hFc := va_free (wc := [((a 0), .inr (12, zMo a zI0))]) hD hS hA [0] rfl
      refine va_calli (va_runV (As := [.int 0]) (rest := []) ⟨hx, hb, hml, hown, ht⟩ (k_X12_lacks l _ D a zI0 0 (by decide)) (cwV 1 ht (zG_V zw_62 zw_63 zw_64 zw_2 zw_65) rfl rfl rfl (by decide +kernel) ⟨Nat.le_of_ble_eq_true rfl, Nat.le_of_ble_eq_true rfl⟩) (zM_V (va_recv hK hP (ci := 12) (q0 := 0) rfl rfl) hPc hKc hDc) rfl rfl hl.1 rfl (lv_room (Nat.le_of_ble_eq_true rfl)) dX12_cut_21 ⟨Nat.le_of_ble_eq_true rfl, Nat.le_of_ble_eq_true rfl⟩) hS (fun q _ h => hFc q h) hFc (fun r_17 u_17 t H1 locs ht0 hvm hw_17 hB hz1 hk1 hS => ?_)
      obtain ⟨rfl, rfl⟩ := hw_17.1 rfl
      obtain ⟨hP1, hK1, hD1⟩ := hB
      rw [ht0] at hP1
      have hK1 := va_K.moved hvm.symm hK1
      obtain ⟨hP, hD⟩ := va_join (wr := [((a 1), .inl (cI, 6792, .inl zI0))]) (w1 := [((a 0), .inr (12, zMo a (upd zI0 0 1)))]) hP hD [0] [1] rfl rfl (by decide) (by decide) hk1 hFc hP1 hD1
      generalize H1 = H at hP hS ⊢
      have hP : va_P D vwCl [((a 1), .inl (cI, 6792, .inl zI0)), ((a 0), .inr (12, zMo a (upd zI0 0 1)))] H := hP
      have hD : va_D A [((a 1), .inl (cI, 6792, .inl zI0)), ((a 0), .inr (12, zMo a (upd zI0 0 1)))] := hD
      refine lv_if_ne (tgt := 88) hx hb dX12_cut_24 (by decide) (fun c_18 => ?_) (fun c_18 => ?_)
      · skip
        refine lv_iconst (v := 0) hx hb dX12_cut_88 (by decide) ?_
        have hP9 := hP.sub (ws' := [((a 0), .inr (12, zMo a (upd zI0 0 1)))]) [1] rfl
        have hD9 := hD.sub (ws' := [((a 0), .inr (12, zMo a (upd zI0 0 1)))]) [1] (by decide) rfl
        have hK9 := hK.sub (tys' := []) [] rfl
        refine W.widen (k := 0) (n := 0) (Nat.le_of_ble_eq_true rfl) (Nat.le_of_ble_eq_true rfl) ?_
        exact W.iret (v := 0) hx hb hr (fun t ht0 hW => ⟨⟨0, upd zI0 0 1, rfl, (show zS_cut p0 p1 p2 p3 1 0 from ⟨rfl, by trivial⟩), (zE_of hP9 hK9 hD9 ht0 hW)⟩, hS.F ht0⟩) hS.2.2 dX12_cut_89
      · skip
        exact absurd c_18 (by decide)
    · skip
      exact absurd c_16 (by decide)
set_option maxHeartbeats 4000000 in
set_option maxRecDepth 100000 in
theorem k_X12_take (l : Launch) (sz : Nat) (D : va_G) (a : Nat → Nat) (cI : ClassId) (p0 p1 p2 : Int32) : Met l yX12_take (.code yX12_take cX12_take 5 (some .int) :: zT) ({ frames := 2, cells := 0, slots := 0, locals := 43 }) (va_Pc [.ref (a 0), .int p0, .int p1, .int p2] (zM D [((a 0), .inr (12, zMo a zI0)), ((a 1), .inl (cI, 6792, .inl zI0))] [(cI, .int)] sz)) (va_Qi (fun (r : Int32) (u : Nat → Int32) => zS_take p0 p1 p2 (u 0) r) (fun u t => zE D [(a 0, .inr (12, zMo a u))] [] (va_A [((a 0), .inr (12, zMo a zI0)), ((a 1), .inl (cI, 6792, .inl zI0))] sz) t) (va_A [((a 0), .inr (12, zMo a zI0)), ((a 1), .inl (cI, 6792, .inl zI0))] sz)) 0 0 (va_A [((a 0), .inr (12, zMo a zI0)), ((a 1), .inl (cI, 6792, .inl zI0))] sz) := by
  refine Met.ofW (cc := cX12_take) (maxL := 5) (ret := (some .int)) (by decide) rfl ?_
  intro p e s m args below meth c s₁ B hml hv
  obtain ⟨rfl, hsz, hP, hK, hD0⟩ := hv
  have hx := B.exec
  have hb := B.bytes
  have hr := B.returns
  have hts := atoms_spec (ws := (.code yX12_take cX12_take 5 (some .int) :: zT)) B.pre
  have ht : ∀ w ∈ zT, w.before _ s = true := fun w h => hts w (List.mem_cons_of_mem _ h)
  have hown : s.vm.findClass RX12 = some m.cls := findClass_of_methodNamed B.named
  have hlocks := B.notSynchronized
  subst hsz
  have hD := hD0.self (sz := s.heap.size)
  generalize hAe : va_A [((a 0), .inr (12, zMo a zI0)), ((a 1), .inl (cI, 6792, .inl zI0))] s.heap.size = A at hD ⊢
  have hA : ∀ q : Nat, s.heap.size ≤ q → A q := fun q h => by rw [← hAe]; exact Or.inr h
  have hS : va_S A s.heap s.heap [] := va_S.rf
  have hP : va_P D vwCl [((a 0), .inr (12, zMo a zI0)), ((a 1), .inl (cI, 6792, .inl zI0))] s.heap := hP
  have hl := lv_entry ([.ref (a 0), .int p0, .int p1, .int p2]) (n := 5) (Nat.le_of_ble_eq_true rfl)
  rw [lg_entry_eq]
  generalize (lg_sl ([.ref (a 0), .int p0, .int p1, .int p2]) ++ List.replicate (5 - (lg_sl ([.ref (a 0), .int p0, .int p1, .int p2])).length) Slot.unset).toArray = ls at hl ⊢
  have hl : lv_has ls 5 [(0, .ref (a 0)), (1, .int p0), (2, .int p1), (3, .int p2)] := hl
  skip
  refine lv_aload_n hx hb dX12_take_0 rfl (lv_at hl 0 rfl) ?_
  refine lv_iload_n hx hb dX12_take_1 rfl (lv_at hl 1 rfl) ?_
  refine vp_callSi (va_runS (As := [.int p0]) (rest := [.ref (a 0)]) ⟨hx, hb, hml, hown, ht⟩ (k_X12_isChain l p0) (va_cwS 1 ht (zG_S zw_77 zw_78 zw_2 zw_79) rfl rfl rfl (by decide +kernel) ⟨Nat.le_of_ble_eq_true rfl, Nat.le_of_ble_eq_true rfl⟩) zN_S rfl rfl hl.1 rfl (lv_room (Nat.le_of_ble_eq_true rfl)) dX12_take_2 ⟨Nat.le_of_ble_eq_true rfl, Nat.le_of_ble_eq_true rfl⟩).run (fun r_1 hw_1 => ?_)
  rcases hw_1 with ⟨rfl, h_1⟩ | ⟨rfl, h_1⟩
  · skip
    refine lv_if_eq (tgt := 19) hx hb dX12_take_5 (by decide) (fun c_2 => ?_) (fun c_2 => ?_)
    · skip
      exact absurd c_2 (by decide)
    · skip
      refine lv_iload_n hx hb dX12_take_8 rfl (lv_at hl 3 rfl) ?_
      refine vp_callSi (va_runS (As := [.int p2]) (rest := [.ref (a 0)]) ⟨hx, hb, hml, hown, ht⟩ (k_X12_isRegister l p2) (va_cwS 1 ht (zG_S zw_59 zw_60 zw_2 zw_61) rfl rfl rfl (by decide +kernel) ⟨Nat.le_of_ble_eq_true rfl, Nat.le_of_ble_eq_true rfl⟩) zN_S rfl rfl hl.1 rfl (lv_room (Nat.le_of_ble_eq_true rfl)) dX12_take_9 ⟨Nat.le_of_ble_eq_true rfl, Nat.le_of_ble_eq_true rfl⟩).run (fun r_3 hw_3 => ?_)
      rcases hw_3 with ⟨rfl, h_3⟩ | ⟨rfl, h_3⟩
      · skip
        refine lv_if_eq (tgt := 19) hx hb dX12_take_12 (by decide) (fun c_4 => ?_) (fun c_4 => ?_)
        · skip
          exact absurd c_4 (by decide)
        · skip
          refine lv_iconst (v := 1) hx hb dX12_take_15 (by decide) ?_
          refine lv_goto (tgt := 20) hx hb dX12_take_16 (by decide) ?_
          have hPc := hP.sub (ws' := [((a 0), .inr (12, zMo a zI0))]) [0] rfl
          have hDc := hD.sub (ws' := [((a 0), .inr (12, zMo a zI0))]) [0] (by decide) rfl
          have hKc := hK.sub (tys' := []) [] rfl
          have hFc := va_free (wc := [((a 0), .inr (12, zMo a zI0))]) hD hS hA [0] rfl
          refine va_calli (va_runV (As := [.int 1]) (rest := []) ⟨hx, hb, hml, hown, ht⟩ (k_X12_lacks l _ D a zI0 1 (by decide)) (cwV 1 ht (zG_V zw_62 zw_63 zw_64 zw_2 zw_65) rfl rfl rfl (by decide +kernel) ⟨Nat.le_of_ble_eq_true rfl, Nat.le_of_ble_eq_true rfl⟩) (zM_V (va_recv hK hP (ci := 12) (q0 := 0) rfl rfl) hPc hKc hDc) rfl rfl hl.1 rfl (lv_room (Nat.le_of_ble_eq_true rfl)) dX12_take_20 ⟨Nat.le_of_ble_eq_true rfl, Nat.le_of_ble_eq_true rfl⟩) hS (fun q _ h => hFc q h) hFc (fun r_5 u_5 t H1 locs ht0 hvm hw_5 hB hz1 hk1 hS => ?_)
          obtain ⟨rfl, rfl⟩ := hw_5.2 (by decide)
          obtain ⟨hP1, hK1, hD1⟩ := hB
          rw [ht0] at hP1
          have hK1 := va_K.moved hvm.symm hK1
          obtain ⟨hP, hD⟩ := va_join (wr := [((a 1), .inl (cI, 6792, .inl zI0))]) (w1 := [((a 0), .inr (12, zMo a (upd zI0 0 0)))]) hP hD [0] [1] rfl rfl (by decide) (by decide) hk1 hFc hP1 hD1
          generalize H1 = H at hP hS ⊢
          have hP : va_P D vwCl [((a 1), .inl (cI, 6792, .inl zI0)), ((a 0), .inr (12, zMo a (upd zI0 0 0)))] H := hP
          have hD : va_D A [((a 1), .inl (cI, 6792, .inl zI0)), ((a 0), .inr (12, zMo a (upd zI0 0 0)))] := hD
          refine lv_if_ne (tgt := 46) hx hb dX12_take_23 (by decide) (fun c_6 => ?_) (fun c_6 => ?_)
          · skip
            exact absurd c_6 (by decide)
          · skip
            refine lv_aload_n hx hb dX12_take_26 rfl (lv_at hl 0 rfl) ?_
            refine lv_iload_n hx hb dX12_take_27 rfl (lv_at hl 2 rfl) ?_
            refine lv_iconst (v := 0) hx hb dX12_take_28 (by decide) ?_
            refine lv_aload_n hx hb dX12_take_29 rfl (lv_at hl 0 rfl) ?_
            refine lv_iload_n hx hb dX12_take_30 rfl (lv_at hl 1 rfl) ?_
            refine vp_callSi (va_runV (As := [.int p0]) (rest := [.int 0, .int p1, .ref (a 0)]) ⟨hx, hb, hml, hown, ht⟩ (k_X12_linesOf l D a (upd zI0 0 0) cI p0 h_1) (cwV 1 ht (zG_V zw_47 zw_48 zw_49 zw_2 zw_50) rfl rfl rfl (by decide +kernel) ⟨Nat.le_of_ble_eq_true rfl, Nat.le_of_ble_eq_true rfl⟩) (zR_V (va_recv hK hP (ci := 12) (q0 := 1) rfl rfl) (hP.sub (ws' := [((a 0), .inr (12, zMo a (upd zI0 0 0))), ((a 1), .inl (cI, 6792, .inl zI0))]) [1, 0] rfl) hK) rfl rfl hl.1 rfl (lv_room (Nat.le_of_ble_eq_true rfl)) dX12_take_31 ⟨Nat.le_of_ble_eq_true rfl, Nat.le_of_ble_eq_true rfl⟩).run (fun r_7 hw_7 => ?_)
            obtain rfl : r_7 = 0 := hw_7
            refine lv_iconst (v := 1) hx hb dX12_take_34 (by decide) ?_
            refine lv_isub hx hb dX12_take_35 ?_
            refine lv_topi (fun x_8 e_8 => ?_)
            obtain rfl : x_8 = (-1) := e_8.trans (by decide)
            refine vp_callSi (va_runS (As := [.int p1, .int 0, .int (-1)]) (rest := [.ref (a 0)]) ⟨hx, hb, hml, hown, ht⟩ (k_X12_in l p1 0 (-1)) (va_cwS 3 ht (zG_S zw_0 zw_1 zw_2 zw_3) rfl rfl rfl (by decide +kernel) ⟨Nat.le_of_ble_eq_true rfl, Nat.le_of_ble_eq_true rfl⟩) zN_S rfl rfl hl.1 rfl (lv_room (Nat.le_of_ble_eq_true rfl)) dX12_take_36 ⟨Nat.le_of_ble_eq_true rfl, Nat.le_of_ble_eq_true rfl⟩).run (fun r_9 hw_9 => ?_)
            rcases hw_9 with ⟨rfl, h_9⟩ | ⟨rfl, h_9⟩
            · skip
              simp only [Int32.reduceToInt] at h_9
              exfalso; omega
            · skip
              simp only [Int32.reduceToInt] at h_9
              refine lv_iconst (v := 1) hx hb dX12_take_39 (by decide) ?_
              have hPc := hP.sub (ws' := [((a 0), .inr (12, zMo a (upd zI0 0 0)))]) [1] rfl
              have hDc := hD.sub (ws' := [((a 0), .inr (12, zMo a (upd zI0 0 0)))]) [1] (by decide) rfl
              have hKc := hK.sub (tys' := []) [] rfl
              have hFc := va_free (wc := [((a 0), .inr (12, zMo a (upd zI0 0 0)))]) hD hS hA [1] rfl
              refine va_calli (va_runV (As := [.int 0, .int 1]) (rest := []) ⟨hx, hb, hml, hown, ht⟩ (k_X12_no l _ D a (upd zI0 0 0) 0 1 (by decide)) (cwV 2 ht (zG_V zw_30 zw_31 zw_32 zw_2 zw_33) rfl rfl rfl (by decide +kernel) ⟨Nat.le_of_ble_eq_true rfl, Nat.le_of_ble_eq_true rfl⟩) (zM_V (va_recv hK hP (ci := 12) (q0 := 1) rfl rfl) hPc hKc hDc) rfl rfl hl.1 rfl (lv_room (Nat.le_of_ble_eq_true rfl)) dX12_take_40 ⟨Nat.le_of_ble_eq_true rfl, Nat.le_of_ble_eq_true rfl⟩) hS (fun q _ h => hFc q h) hFc (fun r_10 u_10 t H1 locs ht0 hvm hw_10 hB hz1 hk1 hS => ?_)
              obtain ⟨rfl, rfl⟩ := hw_10.1 rfl
              obtain ⟨hP1, hK1, hD1⟩ := hB
              rw [ht0] at hP1
              have hK1 := va_K.moved hvm.symm hK1
              obtain ⟨hP, hD⟩ := va_join (wr := [((a 1), .inl (cI, 6792, .inl zI0))]) (w1 := [((a 0), .inr (12, zMo a (upd zI0 0 1)))]) hP hD [1] [0] rfl rfl (by decide) (by decide) hk1 hFc hP1 hD1
              generalize H1 = H at hP hS ⊢
              have hP : va_P D vwCl [((a 1), .inl (cI, 6792, .inl zI0)), ((a 0), .inr (12, zMo a (upd zI0 0 1)))] H := hP
              have hD : va_D A [((a 1), .inl (cI, 6792, .inl zI0)), ((a 0), .inr (12, zMo a (upd zI0 0 1)))] := hD
              refine lv_if_eq (tgt := 48) hx hb dX12_take_43 (by decide) (fun c_11 => ?_) (fun c_11 => ?_)
              · skip
                exact absurd c_11 (by decide)
              · skip
                refine lv_iconst (v := 0) hx hb dX12_take_46 (by decide) ?_
                have hP9 := hP.sub (ws' := [((a 0), .inr (12, zMo a (upd zI0 0 1)))]) [1] rfl
                have hD9 := hD.sub (ws' := [((a 0), .inr (12, zMo a (upd zI0 0 1)))]) [1] (by decide) rfl
                have hK9 := hK.sub (tys' := []) [] rfl
                refine W.widen (k := 0) (n := 0) (Nat.le_of_ble_eq_true rfl) (Nat.le_of_ble_eq_true rfl) ?_
                exact W.iret (v := 0) hx hb hr (fun t ht0 hW => ⟨⟨0, upd zI0 0 1, rfl, (show zS_take p0 p1 p2 1 0 from ⟨rfl, by trivial⟩), (zE_of hP9 hK9 hD9 ht0 hW)⟩, hS.F ht0⟩) hS.2.2 dX12_take_47
      · skip
        refine lv_if_eq (tgt := 19) hx hb dX12_take_12 (by decide) (fun c_12 => ?_) (fun c_12 => ?_)
        · skip
          refine lv_iconst (v := 0) hx hb dX12_take_19 (by decide) ?_
          have hPc := hP.sub (ws' := [((a 0), .inr (12, zMo a zI0))]) [0] rfl
          have hDc := hD.sub (ws' := [((a 0), .inr (12, zMo a zI0))]) [0] (by decide) rfl
          have hKc := hK.sub (tys' := []) [] rfl
          have hFc := va_free (wc := [((a 0), .inr (12, zMo a zI0))]) hD hS hA [0] rfl
          refine va_calli (va_runV (As := [.int 0]) (rest := []) ⟨hx, hb, hml, hown, ht⟩ (k_X12_lacks l _ D a zI0 0 (by decide)) (cwV 1 ht (zG_V zw_62 zw_63 zw_64 zw_2 zw_65) rfl rfl rfl (by decide +kernel) ⟨Nat.le_of_ble_eq_true rfl, Nat.le_of_ble_eq_true rfl⟩) (zM_V (va_recv hK hP (ci := 12) (q0 := 0) rfl rfl) hPc hKc hDc) rfl rfl hl.1 rfl (lv_room (Nat.le_of_ble_eq_true rfl)) dX12_take_20 ⟨Nat.le_of_ble_eq_true rfl, Nat.le_of_ble_eq_true rfl⟩) hS (fun q _ h => hFc q h) hFc (fun r_13 u_13 t H1 locs ht0 hvm hw_13 hB hz1 hk1 hS => ?_)
          obtain ⟨rfl, rfl⟩ := hw_13.1 rfl
          obtain ⟨hP1, hK1, hD1⟩ := hB
          rw [ht0] at hP1
          have hK1 := va_K.moved hvm.symm hK1
          obtain ⟨hP, hD⟩ := va_join (wr := [((a 1), .inl (cI, 6792, .inl zI0))]) (w1 := [((a 0), .inr (12, zMo a (upd zI0 0 1)))]) hP hD [0] [1] rfl rfl (by decide) (by decide) hk1 hFc hP1 hD1
          generalize H1 = H at hP hS ⊢
          have hP : va_P D vwCl [((a 1), .inl (cI, 6792, .inl zI0)), ((a 0), .inr (12, zMo a (upd zI0 0 1)))] H := hP
          have hD : va_D A [((a 1), .inl (cI, 6792, .inl zI0)), ((a 0), .inr (12, zMo a (upd zI0 0 1)))] := hD
          refine lv_if_ne (tgt := 46) hx hb dX12_take_23 (by decide) (fun c_14 => ?_) (fun c_14 => ?_)
          · skip
            refine lv_iconst (v := 0) hx hb dX12_take_46 (by decide) ?_
            have hP9 := hP.sub (ws' := [((a 0), .inr (12, zMo a (upd zI0 0 1)))]) [1] rfl
            have hD9 := hD.sub (ws' := [((a 0), .inr (12, zMo a (upd zI0 0 1)))]) [1] (by decide) rfl
            have hK9 := hK.sub (tys' := []) [] rfl
            refine W.widen (k := 0) (n := 0) (Nat.le_of_ble_eq_true rfl) (Nat.le_of_ble_eq_true rfl) ?_
            exact W.iret (v := 0) hx hb hr (fun t ht0 hW => ⟨⟨0, upd zI0 0 1, rfl, (show zS_take p0 p1 p2 1 0 from ⟨rfl, by trivial⟩), (zE_of hP9 hK9 hD9 ht0 hW)⟩, hS.F ht0⟩) hS.2.2 dX12_take_47
          · skip
            exact absurd c_14 (by decide)
        · skip
          exact absurd c_12 (by decide)
  · skip
    refine lv_if_eq (tgt := 19) hx hb dX12_take_5 (by decide) (fun c_15 => ?_) (fun c_15 => ?_)
    · skip
      refine lv_iconst (v := 0) hx hb dX12_take_19 (by decide) ?_
      have hPc := hP.sub (ws' := [((a 0), .inr (12, zMo a zI0))]) [0] rfl
      have hDc := hD.sub (ws' := [((a 0), .inr (12, zMo a zI0))]) [0] (by decide) rfl
      have hKc := hK.sub (tys' := []) [] rfl
      have hFc := va_free (wc := [((a 0), .inr (12, zMo a zI0))]) hD hS hA [0] rfl
      refine va_calli (va_runV (As := [.int 0]) (rest := []) ⟨hx, hb, hml, hown, ht⟩ (k_X12_lacks l _ D a zI0 0 (by decide)) (cwV 1 ht (zG_V zw_62 zw_63 zw_64 zw_2 zw_65) rfl rfl rfl (by decide +kernel) ⟨Nat.le_of_ble_eq_true rfl, Nat.le_of_ble_eq_true rfl⟩) (zM_V (va_recv hK hP (ci := 12) (q0 := 0) rfl rfl) hPc hKc hDc) rfl rfl hl.1 rfl (lv_room (Nat.le_of_ble_eq_true rfl)) dX12_take_20 ⟨Nat.le_of_ble_eq_true rfl, Nat.le_of_ble_eq_true rfl⟩) hS (fun q _ h => hFc q h) hFc (fun r_16 u_16 t H1 locs ht0 hvm hw_16 hB hz1 hk1 hS => ?_)
      obtain ⟨rfl, rfl⟩ := hw_16.1 rfl
      obtain ⟨hP1, hK1, hD1⟩ := hB
      rw [ht0] at hP1
      have hK1 := va_K.moved hvm.symm hK1
      obtain ⟨hP, hD⟩ := va_join (wr := [((a 1), .inl (cI, 6792, .inl zI0))]) (w1 := [((a 0), .inr (12, zMo a (upd zI0 0 1)))]) hP hD [0] [1] rfl rfl (by decide) (by decide) hk1 hFc hP1 hD1
      generalize H1 = H at hP hS ⊢
      have hP : va_P D vwCl [((a 1), .inl (cI, 6792, .inl zI0)), ((a 0), .inr (12, zMo a (upd zI0 0 1)))] H := hP
      have hD : va_D A [((a 1), .inl (cI, 6792, .inl zI0)), ((a 0), .inr (12, zMo a (upd zI0 0 1)))] := hD
      refine lv_if_ne (tgt := 46) hx hb dX12_take_23 (by decide) (fun c_17 => ?_) (fun c_17 => ?_)
      · skip
        refine lv_iconst (v := 0) hx hb dX12_take_46 (by decide) ?_
        have hP9 := hP.sub (ws' := [((a 0), .inr (12, zMo a (upd zI0 0 1)))]) [1] rfl
        have hD9 := hD.sub (ws' := [((a 0), .inr (12, zMo a (upd zI0 0 1)))]) [1] (by decide) rfl
        have hK9 := hK.sub (tys' := []) [] rfl
        refine W.widen (k := 0) (n := 0) (Nat.le_of_ble_eq_true rfl) (Nat.le_of_ble_eq_true rfl) ?_
        exact W.iret (v := 0) hx hb hr (fun t ht0 hW => ⟨⟨0, upd zI0 0 1, rfl, (show zS_take p0 p1 p2 1 0 from ⟨rfl, by trivial⟩), (zE_of hP9 hK9 hD9 ht0 hW)⟩, hS.F ht0⟩) hS.2.2 dX12_take_47
      · skip
        exact absurd c_17 (by decide)
    · skip
      exact absurd c_15 (by decide)
set_option maxHeartbeats 4000000 in
set_option maxRecDepth 100000 in
theorem k_X12_find (l : Launch) (sz : Nat) (D : va_G) (a : Nat → Nat) (cI : ClassId) (p0 p1 p2 p3 p4 : Int32) : Met l yX12_find (.code yX12_find cX12_find 10 (some .int) :: zT) ({ frames := 2, cells := 0, slots := 0, locals := 43 }) (va_Pc [.ref (a 0), .int p0, .int p1, .int p2, .int p3, .int p4] (zM D [((a 0), .inr (12, zMo a zI0)), ((a 1), .inl (cI, 6792, .inl zI0))] [(cI, .int)] sz)) (va_Qi (fun (r : Int32) (u : Nat → Int32) => zS_find p0 p1 p2 p3 p4 (u 0) r) (fun u t => zE D [(a 0, .inr (12, zMo a u))] [] (va_A [((a 0), .inr (12, zMo a zI0)), ((a 1), .inl (cI, 6792, .inl zI0))] sz) t) (va_A [((a 0), .inr (12, zMo a zI0)), ((a 1), .inl (cI, 6792, .inl zI0))] sz)) 0 0 (va_A [((a 0), .inr (12, zMo a zI0)), ((a 1), .inl (cI, 6792, .inl zI0))] sz) := by
  refine Met.ofW (cc := cX12_find) (maxL := 10) (ret := (some .int)) (by decide) rfl ?_
  intro p e s m args below meth c s₁ B hml hv
  obtain ⟨rfl, hsz, hP, hK, hD0⟩ := hv
  have hx := B.exec
  have hb := B.bytes
  have hr := B.returns
  have hts := atoms_spec (ws := (.code yX12_find cX12_find 10 (some .int) :: zT)) B.pre
  have ht : ∀ w ∈ zT, w.before _ s = true := fun w h => hts w (List.mem_cons_of_mem _ h)
  have hown : s.vm.findClass RX12 = some m.cls := findClass_of_methodNamed B.named
  have hlocks := B.notSynchronized
  subst hsz
  have hD := hD0.self (sz := s.heap.size)
  generalize hAe : va_A [((a 0), .inr (12, zMo a zI0)), ((a 1), .inl (cI, 6792, .inl zI0))] s.heap.size = A at hD ⊢
  have hA : ∀ q : Nat, s.heap.size ≤ q → A q := fun q h => by rw [← hAe]; exact Or.inr h
  have hS : va_S A s.heap s.heap [] := va_S.rf
  have hP : va_P D vwCl [((a 0), .inr (12, zMo a zI0)), ((a 1), .inl (cI, 6792, .inl zI0))] s.heap := hP
  have hl := lv_entry ([.ref (a 0), .int p0, .int p1, .int p2, .int p3, .int p4]) (n := 10) (Nat.le_of_ble_eq_true rfl)
  rw [lg_entry_eq]
  generalize (lg_sl ([.ref (a 0), .int p0, .int p1, .int p2, .int p3, .int p4]) ++ List.replicate (10 - (lg_sl ([.ref (a 0), .int p0, .int p1, .int p2, .int p3, .int p4])).length) Slot.unset).toArray = ls at hl ⊢
  have hl : lv_has ls 10 [(0, .ref (a 0)), (1, .int p0), (2, .int p1), (3, .int p2), (4, .int p3), (5, .int p4)] := hl
  skip
  refine lv_aload_n hx hb dX12_find_0 rfl (lv_at hl 0 rfl) ?_
  refine lv_iload_n hx hb dX12_find_1 rfl (lv_at hl 1 rfl) ?_
  refine vp_callSi (va_runS (As := [.int p0]) (rest := [.ref (a 0)]) ⟨hx, hb, hml, hown, ht⟩ (k_X12_isChain l p0) (va_cwS 1 ht (zG_S zw_77 zw_78 zw_2 zw_79) rfl rfl rfl (by decide +kernel) ⟨Nat.le_of_ble_eq_true rfl, Nat.le_of_ble_eq_true rfl⟩) zN_S rfl rfl hl.1 rfl (lv_room (Nat.le_of_ble_eq_true rfl)) dX12_find_2 ⟨Nat.le_of_ble_eq_true rfl, Nat.le_of_ble_eq_true rfl⟩).run (fun r_1 hw_1 => ?_)
  rcases hw_1 with ⟨rfl, h_1⟩ | ⟨rfl, h_1⟩
  · skip
    refine lv_if_eq (tgt := 26) hx hb dX12_find_5 (by decide) (fun c_2 => ?_) (fun c_2 => ?_)
    · skip
      exact absurd c_2 (by decide)
    · skip
      refine lv_iload_n hx hb dX12_find_8 rfl (lv_at hl 2 rfl) ?_
      refine vp_callSi (va_runS (As := [.int p1]) (rest := [.ref (a 0)]) ⟨hx, hb, hml, hown, ht⟩ (k_X12_isRegister l p1) (va_cwS 1 ht (zG_S zw_59 zw_60 zw_2 zw_61) rfl rfl rfl (by decide +kernel) ⟨Nat.le_of_ble_eq_true rfl, Nat.le_of_ble_eq_true rfl⟩) zN_S rfl rfl hl.1 rfl (lv_room (Nat.le_of_ble_eq_true rfl)) dX12_find_9 ⟨Nat.le_of_ble_eq_true rfl, Nat.le_of_ble_eq_true rfl⟩).run (fun r_3 hw_3 => ?_)
      rcases hw_3 with ⟨rfl, h_3⟩ | ⟨rfl, h_3⟩
      · skip
        refine lv_if_eq (tgt := 26) hx hb dX12_find_12 (by decide) (fun c_4 => ?_) (fun c_4 => ?_)
        · skip
          exact absurd c_4 (by decide)
        · skip
          refine lv_iload_n hx hb dX12_find_15 rfl (lv_at hl 3 rfl) ?_
          refine vp_callSi (va_runS (As := [.int p2]) (rest := [.ref (a 0)]) ⟨hx, hb, hml, hown, ht⟩ (k_X12_isRegister l p2) (va_cwS 1 ht (zG_S zw_59 zw_60 zw_2 zw_61) rfl rfl rfl (by decide +kernel) ⟨Nat.le_of_ble_eq_true rfl, Nat.le_of_ble_eq_true rfl⟩) zN_S rfl rfl hl.1 rfl (lv_room (Nat.le_of_ble_eq_true rfl)) dX12_find_16 ⟨Nat.le_of_ble_eq_true rfl, Nat.le_of_ble_eq_true rfl⟩).run (fun r_5 hw_5 => ?_)
          rcases hw_5 with ⟨rfl, h_5⟩ | ⟨rfl, h_5⟩
          · skip
            refine lv_if_eq (tgt := 26) hx hb dX12_find_19 (by decide) (fun c_6 => ?_) (fun c_6 => ?_)
            · skip
              exact absurd c_6 (by decide)
            · skip
              refine lv_iconst (v := 1) hx hb dX12_find_22 (by decide) ?_
              refine lv_goto (tgt := 27) hx hb dX12_find_23 (by decide) ?_
              have hPc := hP.sub (ws' := [((a 0), .inr (12, zMo a zI0))]) [0] rfl
              have hDc := hD.sub (ws' := [((a 0), .inr (12, zMo a zI0))]) [0] (by decide) rfl
              have hKc := hK.sub (tys' := []) [] rfl
              have hFc := va_free (wc := [((a 0), .inr (12, zMo a zI0))]) hD hS hA [0] rfl
              refine va_calli (va_runV (As := [.int 1]) (rest := []) ⟨hx, hb, hml, hown, ht⟩ (k_X12_lacks l _ D a zI0 1 (by decide)) (cwV 1 ht (zG_V zw_62 zw_63 zw_64 zw_2 zw_65) rfl rfl rfl (by decide +kernel) ⟨Nat.le_of_ble_eq_true rfl, Nat.le_of_ble_eq_true rfl⟩) (zM_V (va_recv hK hP (ci := 12) (q0 := 0) rfl rfl) hPc hKc hDc) rfl rfl hl.1 rfl (lv_room (Nat.le_of_ble_eq_true rfl)) dX12_find_27 ⟨Nat.le_of_ble_eq_true rfl, Nat.le_of_ble_eq_true rfl⟩) hS (fun q _ h => hFc q h) hFc (fun r_7 u_7 t H1 locs ht0 hvm hw_7 hB hz1 hk1 hS => ?_)
              obtain ⟨rfl, rfl⟩ := hw_7.2 (by decide)
              obtain ⟨hP1, hK1, hD1⟩ := hB
              rw [ht0] at hP1
              have hK1 := va_K.moved hvm.symm hK1
              obtain ⟨hP, hD⟩ := va_join (wr := [((a 1), .inl (cI, 6792, .inl zI0))]) (w1 := [((a 0), .inr (12, zMo a (upd zI0 0 0)))]) hP hD [0] [1] rfl rfl (by decide) (by decide) hk1 hFc hP1 hD1
              generalize H1 = H at hP hS ⊢
              have hP : va_P D vwCl [((a 1), .inl (cI, 6792, .inl zI0)), ((a 0), .inr (12, zMo a (upd zI0 0 0)))] H := hP
              have hD : va_D A [((a 1), .inl (cI, 6792, .inl zI0)), ((a 0), .inr (12, zMo a (upd zI0 0 0)))] := hD
              refine lv_if_ne (tgt := 95) hx hb dX12_find_30 (by decide) (fun c_8 => ?_) (fun c_8 => ?_)
              · skip
                exact absurd c_8 (by decide)
              · skip
                refine lv_aload_n hx hb dX12_find_33 rfl (lv_at hl 0 rfl) ?_
                refine lv_iload hx hb dX12_find_34 (lv_at hl 4 rfl) ?_
                refine lv_iconst (v := 0) hx hb dX12_find_36 (by decide) ?_
                refine lv_iconst (v := 2) hx hb dX12_find_37 (by decide) ?_
                refine vp_callSi (va_runS (As := [.int p3, .int 0, .int 2]) (rest := [.ref (a 0)]) ⟨hx, hb, hml, hown, ht⟩ (k_X12_in l p3 0 2) (va_cwS 3 ht (zG_S zw_0 zw_1 zw_2 zw_3) rfl rfl rfl (by decide +kernel) ⟨Nat.le_of_ble_eq_true rfl, Nat.le_of_ble_eq_true rfl⟩) zN_S rfl rfl hl.1 rfl (lv_room (Nat.le_of_ble_eq_true rfl)) dX12_find_38 ⟨Nat.le_of_ble_eq_true rfl, Nat.le_of_ble_eq_true rfl⟩).run (fun r_9 hw_9 => ?_)
                rcases hw_9 with ⟨rfl, h_9⟩ | ⟨rfl, h_9⟩
                · skip
                  simp only [Int32.reduceToInt] at h_9
                  refine lv_if_eq (tgt := 58) hx hb dX12_find_41 (by decide) (fun c_10 => ?_) (fun c_10 => ?_)
                  · skip
                    exact absurd c_10 (by decide)
                  · skip
                    refine lv_iload hx hb dX12_find_44 (lv_at hl 5 rfl) ?_
                    refine lv_iconst (v := 0) hx hb dX12_find_46 (by decide) ?_
                    refine lv_iconst (v := 4) hx hb dX12_find_47 (by decide) ?_
                    refine vp_callSi (va_runS (As := [.int p4, .int 0, .int 4]) (rest := [.ref (a 0)]) ⟨hx, hb, hml, hown, ht⟩ (k_X12_in l p4 0 4) (va_cwS 3 ht (zG_S zw_0 zw_1 zw_2 zw_3) rfl rfl rfl (by decide +kernel) ⟨Nat.le_of_ble_eq_true rfl, Nat.le_of_ble_eq_true rfl⟩) zN_S rfl rfl hl.1 rfl (lv_room (Nat.le_of_ble_eq_true rfl)) dX12_find_48 ⟨Nat.le_of_ble_eq_true rfl, Nat.le_of_ble_eq_true rfl⟩).run (fun r_11 hw_11 => ?_)
                    rcases hw_11 with ⟨rfl, h_11⟩ | ⟨rfl, h_11⟩
                    · skip
                      simp only [Int32.reduceToInt] at h_11
                      refine lv_if_eq (tgt := 58) hx hb dX12_find_51 (by decide) (fun c_12 => ?_) (fun c_12 => ?_)
                      · skip
                        exact absurd c_12 (by decide)
                      · skip
                        refine lv_iconst (v := 1) hx hb dX12_find_54 (by decide) ?_
                        refine lv_goto (tgt := 59) hx hb dX12_find_55 (by decide) ?_
                        refine lv_iconst (v := 2) hx hb dX12_find_59 (by decide) ?_
                        have hPc := hP.sub (ws' := [((a 0), .inr (12, zMo a (upd zI0 0 0)))]) [1] rfl
                        have hDc := hD.sub (ws' := [((a 0), .inr (12, zMo a (upd zI0 0 0)))]) [1] (by decide) rfl
                        have hKc := hK.sub (tys' := []) [] rfl
                        have hFc := va_free (wc := [((a 0), .inr (12, zMo a (upd zI0 0 0)))]) hD hS hA [1] rfl
                        refine va_calli (va_runV (As := [.int 1, .int 2]) (rest := []) ⟨hx, hb, hml, hown, ht⟩ (k_X12_no l _ D a (upd zI0 0 0) 1 2 (by decide)) (cwV 2 ht (zG_V zw_30 zw_31 zw_32 zw_2 zw_33) rfl rfl rfl (by decide +kernel) ⟨Nat.le_of_ble_eq_true rfl, Nat.le_of_ble_eq_true rfl⟩) (zM_V (va_recv hK hP (ci := 12) (q0 := 1) rfl rfl) hPc hKc hDc) rfl rfl hl.1 rfl (lv_room (Nat.le_of_ble_eq_true rfl)) dX12_find_60 ⟨Nat.le_of_ble_eq_true rfl, Nat.le_of_ble_eq_true rfl⟩) hS (fun q _ h => hFc q h) hFc (fun r_13 u_13 t H1 locs ht0 hvm hw_13 hB hz1 hk1 hS => ?_)
                        obtain ⟨rfl, rfl⟩ := hw_13.2 (by decide)
                        obtain ⟨hP1, hK1, hD1⟩ := hB
                        rw [ht0] at hP1
                        have hK1 := va_K.moved hvm.symm hK1
                        obtain ⟨hP, hD⟩ := va_join (wr := [((a 1), .inl (cI, 6792, .inl zI0))]) (w1 := [((a 0), .inr (12, zMo a (upd zI0 0 0)))]) hP hD [1] [0] rfl rfl (by decide) (by decide) hk1 hFc hP1 hD1
                        generalize H1 = H at hP hS ⊢
                        have hP : va_P D vwCl [((a 1), .inl (cI, 6792, .inl zI0)), ((a 0), .inr (12, zMo a (upd zI0 0 0)))] H := hP
                        have hD : va_D A [((a 1), .inl (cI, 6792, .inl zI0)), ((a 0), .inr (12, zMo a (upd zI0 0 0)))] := hD
                        refine lv_if_ne (tgt := 95) hx hb dX12_find_63 (by decide) (fun c_14 => ?_) (fun c_14 => ?_)
                        · skip
                          exact absurd c_14 (by decide)
                        · skip
                          refine lv_aload_n hx hb dX12_find_66 rfl (lv_at hl 0 rfl) ?_
                          refine lv_aload_n hx hb dX12_find_67 rfl (lv_at hl 0 rfl) ?_
                          refine lv_iload_n hx hb dX12_find_68 rfl (lv_at hl 2 rfl) ?_
                          refine vp_callSi (va_runV (As := [.int p1]) (rest := [.ref (a 0)]) ⟨hx, hb, hml, hown, ht⟩ (k_X12_isFull l D a (upd zI0 0 0) cI p1 h_3) (cwV 1 ht (zG_V zw_69 zw_70 zw_71 zw_2 zw_72) rfl rfl rfl (by decide +kernel) ⟨Nat.le_of_ble_eq_true rfl, Nat.le_of_ble_eq_true rfl⟩) (zR_V (va_recv hK hP (ci := 12) (q0 := 1) rfl rfl) (hP.sub (ws' := [((a 0), .inr (12, zMo a (upd zI0 0 0))), ((a 1), .inl (cI, 6792, .inl zI0))]) [1, 0] rfl) hK) rfl rfl hl.1 rfl (lv_room (Nat.le_of_ble_eq_true rfl)) dX12_find_69 ⟨Nat.le_of_ble_eq_true rfl, Nat.le_of_ble_eq_true rfl⟩).run (fun r_15 hw_15 => ?_)
                          obtain rfl : r_15 = 0 := hw_15
                          refine lv_if_eq (tgt := 87) hx hb dX12_find_72 (by decide) (fun c_16 => ?_) (fun c_16 => ?_)
                          · skip
                            refine lv_iconst (v := 0) hx hb dX12_find_87 (by decide) ?_
                            refine lv_iconst (v := 3) hx hb dX12_find_88 (by decide) ?_
                            have hPc := hP.sub (ws' := [((a 0), .inr (12, zMo a (upd zI0 0 0)))]) [1] rfl
                            have hDc := hD.sub (ws' := [((a 0), .inr (12, zMo a (upd zI0 0 0)))]) [1] (by decide) rfl
                            have hKc := hK.sub (tys' := []) [] rfl
                            have hFc := va_free (wc := [((a 0), .inr (12, zMo a (upd zI0 0 0)))]) hD hS hA [1] rfl
                            refine va_calli (va_runV (As := [.int 0, .int 3]) (rest := []) ⟨hx, hb, hml, hown, ht⟩ (k_X12_no l _ D a (upd zI0 0 0) 0 3 (by decide)) (cwV 2 ht (zG_V zw_30 zw_31 zw_32 zw_2 zw_33) rfl rfl rfl (by decide +kernel) ⟨Nat.le_of_ble_eq_true rfl, Nat.le_of_ble_eq_true rfl⟩) (zM_V (va_recv hK hP (ci := 12) (q0 := 1) rfl rfl) hPc hKc hDc) rfl rfl hl.1 rfl (lv_room (Nat.le_of_ble_eq_true rfl)) dX12_find_89 ⟨Nat.le_of_ble_eq_true rfl, Nat.le_of_ble_eq_true rfl⟩) hS (fun q _ h => hFc q h) hFc (fun r_17 u_17 t H1 locs ht0 hvm hw_17 hB hz1 hk1 hS => ?_)
                            obtain ⟨rfl, rfl⟩ := hw_17.1 rfl
                            obtain ⟨hP1, hK1, hD1⟩ := hB
                            rw [ht0] at hP1
                            have hK1 := va_K.moved hvm.symm hK1
                            obtain ⟨hP, hD⟩ := va_join (wr := [((a 1), .inl (cI, 6792, .inl zI0))]) (w1 := [((a 0), .inr (12, zMo a (upd zI0 0 3)))]) hP hD [1] [0] rfl rfl (by decide) (by decide) hk1 hFc hP1 hD1
                            generalize H1 = H at hP hS ⊢
                            have hP : va_P D vwCl [((a 1), .inl (cI, 6792, .inl zI0)), ((a 0), .inr (12, zMo a (upd zI0 0 3)))] H := hP
                            have hD : va_D A [((a 1), .inl (cI, 6792, .inl zI0)), ((a 0), .inr (12, zMo a (upd zI0 0 3)))] := hD
                            refine lv_if_eq (tgt := 97) hx hb dX12_find_92 (by decide) (fun c_18 => ?_) (fun c_18 => ?_)
                            · skip
                              exact absurd c_18 (by decide)
                            · skip
                              refine lv_iconst (v := 0) hx hb dX12_find_95 (by decide) ?_
                              have hP9 := hP.sub (ws' := [((a 0), .inr (12, zMo a (upd zI0 0 3)))]) [1] rfl
                              have hD9 := hD.sub (ws' := [((a 0), .inr (12, zMo a (upd zI0 0 3)))]) [1] (by decide) rfl
                              have hK9 := hK.sub (tys' := []) [] rfl
                              refine W.widen (k := 0) (n := 0) (Nat.le_of_ble_eq_true rfl) (Nat.le_of_ble_eq_true rfl) ?_
                              exact W.iret (v := 0) hx hb hr (fun t ht0 hW => ⟨⟨0, upd zI0 0 3, rfl, (show zS_find p0 p1 p2 p3 p4 3 0 from (.inr (.inr ⟨rfl, by omega⟩))), (zE_of hP9 hK9 hD9 ht0 hW)⟩, hS.F ht0⟩) hS.2.2 dX12_find_96
                          · skip
                            exact absurd c_16 (by decide)
                    · skip
                      simp only [Int32.reduceToInt] at h_11
                      refine lv_if_eq (tgt := 58) hx hb dX12_find_51 (by decide) (fun c_19 => ?_) (fun c_19 => ?_)
                      · skip
                        refine lv_iconst (v := 0) hx hb dX12_find_58 (by decide) ?_
                        refine lv_iconst (v := 2) hx hb dX12_find_59 (by decide) ?_
                        have hPc := hP.sub (ws' := [((a 0), .inr (12, zMo a (upd zI0 0 0)))]) [1] rfl
                        have hDc := hD.sub (ws' := [((a 0), .inr (12, zMo a (upd zI0 0 0)))]) [1] (by decide) rfl
                        have hKc := hK.sub (tys' := []) [] rfl
                        have hFc := va_free (wc := [((a 0), .inr (12, zMo a (upd zI0 0 0)))]) hD hS hA [1] rfl
                        refine va_calli (va_runV (As := [.int 0, .int 2]) (rest := []) ⟨hx, hb, hml, hown, ht⟩ (k_X12_no l _ D a (upd zI0 0 0) 0 2 (by decide)) (cwV 2 ht (zG_V zw_30 zw_31 zw_32 zw_2 zw_33) rfl rfl rfl (by decide +kernel) ⟨Nat.le_of_ble_eq_true rfl, Nat.le_of_ble_eq_true rfl⟩) (zM_V (va_recv hK hP (ci := 12) (q0 := 1) rfl rfl) hPc hKc hDc) rfl rfl hl.1 rfl (lv_room (Nat.le_of_ble_eq_true rfl)) dX12_find_60 ⟨Nat.le_of_ble_eq_true rfl, Nat.le_of_ble_eq_true rfl⟩) hS (fun q _ h => hFc q h) hFc (fun r_20 u_20 t H1 locs ht0 hvm hw_20 hB hz1 hk1 hS => ?_)
                        obtain ⟨rfl, rfl⟩ := hw_20.1 rfl
                        obtain ⟨hP1, hK1, hD1⟩ := hB
                        rw [ht0] at hP1
                        have hK1 := va_K.moved hvm.symm hK1
                        obtain ⟨hP, hD⟩ := va_join (wr := [((a 1), .inl (cI, 6792, .inl zI0))]) (w1 := [((a 0), .inr (12, zMo a (upd zI0 0 2)))]) hP hD [1] [0] rfl rfl (by decide) (by decide) hk1 hFc hP1 hD1
                        generalize H1 = H at hP hS ⊢
                        have hP : va_P D vwCl [((a 1), .inl (cI, 6792, .inl zI0)), ((a 0), .inr (12, zMo a (upd zI0 0 2)))] H := hP
                        have hD : va_D A [((a 1), .inl (cI, 6792, .inl zI0)), ((a 0), .inr (12, zMo a (upd zI0 0 2)))] := hD
                        refine lv_if_ne (tgt := 95) hx hb dX12_find_63 (by decide) (fun c_21 => ?_) (fun c_21 => ?_)
                        · skip
                          refine lv_iconst (v := 0) hx hb dX12_find_95 (by decide) ?_
                          have hP9 := hP.sub (ws' := [((a 0), .inr (12, zMo a (upd zI0 0 2)))]) [1] rfl
                          have hD9 := hD.sub (ws' := [((a 0), .inr (12, zMo a (upd zI0 0 2)))]) [1] (by decide) rfl
                          have hK9 := hK.sub (tys' := []) [] rfl
                          refine W.widen (k := 0) (n := 0) (Nat.le_of_ble_eq_true rfl) (Nat.le_of_ble_eq_true rfl) ?_
                          exact W.iret (v := 0) hx hb hr (fun t ht0 hW => ⟨⟨0, upd zI0 0 2, rfl, (show zS_find p0 p1 p2 p3 p4 2 0 from (.inr (.inl ⟨rfl, by omega⟩))), (zE_of hP9 hK9 hD9 ht0 hW)⟩, hS.F ht0⟩) hS.2.2 dX12_find_96
                        · skip
                          exact absurd c_21 (by decide)
                      · skip
                        exact absurd c_19 (by decide)
                · skip
                  simp only [Int32.reduceToInt] at h_9
                  refine lv_if_eq (tgt := 58) hx hb dX12_find_41 (by decide) (fun c_22 => ?_) (fun c_22 => ?_)
                  · skip
                    refine lv_iconst (v := 0) hx hb dX12_find_58 (by decide) ?_
                    refine lv_iconst (v := 2) hx hb dX12_find_59 (by decide) ?_
                    have hPc := hP.sub (ws' := [((a 0), .inr (12, zMo a (upd zI0 0 0)))]) [1] rfl
                    have hDc := hD.sub (ws' := [((a 0), .inr (12, zMo a (upd zI0 0 0)))]) [1] (by decide) rfl
                    have hKc := hK.sub (tys' := []) [] rfl
                    have hFc := va_free (wc := [((a 0), .inr (12, zMo a (upd zI0 0 0)))]) hD hS hA [1] rfl
                    refine va_calli (va_runV (As := [.int 0, .int 2]) (rest := []) ⟨hx, hb, hml, hown, ht⟩ (k_X12_no l _ D a (upd zI0 0 0) 0 2 (by decide)) (cwV 2 ht (zG_V zw_30 zw_31 zw_32 zw_2 zw_33) rfl rfl rfl (by decide +kernel) ⟨Nat.le_of_ble_eq_true rfl, Nat.le_of_ble_eq_true rfl⟩) (zM_V (va_recv hK hP (ci := 12) (q0 := 1) rfl rfl) hPc hKc hDc) rfl rfl hl.1 rfl (lv_room (Nat.le_of_ble_eq_true rfl)) dX12_find_60 ⟨Nat.le_of_ble_eq_true rfl, Nat.le_of_ble_eq_true rfl⟩) hS (fun q _ h => hFc q h) hFc (fun r_23 u_23 t H1 locs ht0 hvm hw_23 hB hz1 hk1 hS => ?_)
                    obtain ⟨rfl, rfl⟩ := hw_23.1 rfl
                    obtain ⟨hP1, hK1, hD1⟩ := hB
                    rw [ht0] at hP1
                    have hK1 := va_K.moved hvm.symm hK1
                    obtain ⟨hP, hD⟩ := va_join (wr := [((a 1), .inl (cI, 6792, .inl zI0))]) (w1 := [((a 0), .inr (12, zMo a (upd zI0 0 2)))]) hP hD [1] [0] rfl rfl (by decide) (by decide) hk1 hFc hP1 hD1
                    generalize H1 = H at hP hS ⊢
                    have hP : va_P D vwCl [((a 1), .inl (cI, 6792, .inl zI0)), ((a 0), .inr (12, zMo a (upd zI0 0 2)))] H := hP
                    have hD : va_D A [((a 1), .inl (cI, 6792, .inl zI0)), ((a 0), .inr (12, zMo a (upd zI0 0 2)))] := hD
                    refine lv_if_ne (tgt := 95) hx hb dX12_find_63 (by decide) (fun c_24 => ?_) (fun c_24 => ?_)
                    · skip
                      refine lv_iconst (v := 0) hx hb dX12_find_95 (by decide) ?_
                      have hP9 := hP.sub (ws' := [((a 0), .inr (12, zMo a (upd zI0 0 2)))]) [1] rfl
                      have hD9 := hD.sub (ws' := [((a 0), .inr (12, zMo a (upd zI0 0 2)))]) [1] (by decide) rfl
                      have hK9 := hK.sub (tys' := []) [] rfl
                      refine W.widen (k := 0) (n := 0) (Nat.le_of_ble_eq_true rfl) (Nat.le_of_ble_eq_true rfl) ?_
                      exact W.iret (v := 0) hx hb hr (fun t ht0 hW => ⟨⟨0, upd zI0 0 2, rfl, (show zS_find p0 p1 p2 p3 p4 2 0 from (.inr (.inl ⟨rfl, by omega⟩))), (zE_of hP9 hK9 hD9 ht0 hW)⟩, hS.F ht0⟩) hS.2.2 dX12_find_96
                    · skip
                      exact absurd c_24 (by decide)
                  · skip
                    exact absurd c_22 (by decide)
          · skip
            refine lv_if_eq (tgt := 26) hx hb dX12_find_19 (by decide) (fun c_25 => ?_) (fun c_25 => ?_)
            · skip
              refine lv_iconst (v := 0) hx hb dX12_find_26 (by decide) ?_
              have hPc := hP.sub (ws' := [((a 0), .inr (12, zMo a zI0))]) [0] rfl
              have hDc := hD.sub (ws' := [((a 0), .inr (12, zMo a zI0))]) [0] (by decide) rfl
              have hKc := hK.sub (tys' := []) [] rfl
              have hFc := va_free (wc := [((a 0), .inr (12, zMo a zI0))]) hD hS hA [0] rfl
              refine va_calli (va_runV (As := [.int 0]) (rest := []) ⟨hx, hb, hml, hown, ht⟩ (k_X12_lacks l _ D a zI0 0 (by decide)) (cwV 1 ht (zG_V zw_62 zw_63 zw_64 zw_2 zw_65) rfl rfl rfl (by decide +kernel) ⟨Nat.le_of_ble_eq_true rfl, Nat.le_of_ble_eq_true rfl⟩) (zM_V (va_recv hK hP (ci := 12) (q0 := 0) rfl rfl) hPc hKc hDc) rfl rfl hl.1 rfl (lv_room (Nat.le_of_ble_eq_true rfl)) dX12_find_27 ⟨Nat.le_of_ble_eq_true rfl, Nat.le_of_ble_eq_true rfl⟩) hS (fun q _ h => hFc q h) hFc (fun r_26 u_26 t H1 locs ht0 hvm hw_26 hB hz1 hk1 hS => ?_)
              obtain ⟨rfl, rfl⟩ := hw_26.1 rfl
              obtain ⟨hP1, hK1, hD1⟩ := hB
              rw [ht0] at hP1
              have hK1 := va_K.moved hvm.symm hK1
              obtain ⟨hP, hD⟩ := va_join (wr := [((a 1), .inl (cI, 6792, .inl zI0))]) (w1 := [((a 0), .inr (12, zMo a (upd zI0 0 1)))]) hP hD [0] [1] rfl rfl (by decide) (by decide) hk1 hFc hP1 hD1
              generalize H1 = H at hP hS ⊢
              have hP : va_P D vwCl [((a 1), .inl (cI, 6792, .inl zI0)), ((a 0), .inr (12, zMo a (upd zI0 0 1)))] H := hP
              have hD : va_D A [((a 1), .inl (cI, 6792, .inl zI0)), ((a 0), .inr (12, zMo a (upd zI0 0 1)))] := hD
              refine lv_if_ne (tgt := 95) hx hb dX12_find_30 (by decide) (fun c_27 => ?_) (fun c_27 => ?_)
              · skip
                refine lv_iconst (v := 0) hx hb dX12_find_95 (by decide) ?_
                have hP9 := hP.sub (ws' := [((a 0), .inr (12, zMo a (upd zI0 0 1)))]) [1] rfl
                have hD9 := hD.sub (ws' := [((a 0), .inr (12, zMo a (upd zI0 0 1)))]) [1] (by decide) rfl
                have hK9 := hK.sub (tys' := []) [] rfl
                refine W.widen (k := 0) (n := 0) (Nat.le_of_ble_eq_true rfl) (Nat.le_of_ble_eq_true rfl) ?_
                exact W.iret (v := 0) hx hb hr (fun t ht0 hW => ⟨⟨0, upd zI0 0 1, rfl, (show zS_find p0 p1 p2 p3 p4 1 0 from (.inl ⟨rfl, by omega⟩)), (zE_of hP9 hK9 hD9 ht0 hW)⟩, hS.F ht0⟩) hS.2.2 dX12_find_96
              · skip
                exact absurd c_27 (by decide)
            · skip
              exact absurd c_25 (by decide)
      · skip
        refine lv_if_eq (tgt := 26) hx hb dX12_find_12 (by decide) (fun c_28 => ?_) (fun c_28 => ?_)
        · skip
          refine lv_iconst (v := 0) hx hb dX12_find_26 (by decide) ?_
          have hPc := hP.sub (ws' := [((a 0), .inr (12, zMo a zI0))]) [0] rfl
          have hDc := hD.sub (ws' := [((a 0), .inr (12, zMo a zI0))]) [0] (by decide) rfl
          have hKc := hK.sub (tys' := []) [] rfl
          have hFc := va_free (wc := [((a 0), .inr (12, zMo a zI0))]) hD hS hA [0] rfl
          refine va_calli (va_runV (As := [.int 0]) (rest := []) ⟨hx, hb, hml, hown, ht⟩ (k_X12_lacks l _ D a zI0 0 (by decide)) (cwV 1 ht (zG_V zw_62 zw_63 zw_64 zw_2 zw_65) rfl rfl rfl (by decide +kernel) ⟨Nat.le_of_ble_eq_true rfl, Nat.le_of_ble_eq_true rfl⟩) (zM_V (va_recv hK hP (ci := 12) (q0 := 0) rfl rfl) hPc hKc hDc) rfl rfl hl.1 rfl (lv_room (Nat.le_of_ble_eq_true rfl)) dX12_find_27 ⟨Nat.le_of_ble_eq_true rfl, Nat.le_of_ble_eq_true rfl⟩) hS (fun q _ h => hFc q h) hFc (fun r_29 u_29 t H1 locs ht0 hvm hw_29 hB hz1 hk1 hS => ?_)
          obtain ⟨rfl, rfl⟩ := hw_29.1 rfl
          obtain ⟨hP1, hK1, hD1⟩ := hB
          rw [ht0] at hP1
          have hK1 := va_K.moved hvm.symm hK1
          obtain ⟨hP, hD⟩ := va_join (wr := [((a 1), .inl (cI, 6792, .inl zI0))]) (w1 := [((a 0), .inr (12, zMo a (upd zI0 0 1)))]) hP hD [0] [1] rfl rfl (by decide) (by decide) hk1 hFc hP1 hD1
          generalize H1 = H at hP hS ⊢
          have hP : va_P D vwCl [((a 1), .inl (cI, 6792, .inl zI0)), ((a 0), .inr (12, zMo a (upd zI0 0 1)))] H := hP
          have hD : va_D A [((a 1), .inl (cI, 6792, .inl zI0)), ((a 0), .inr (12, zMo a (upd zI0 0 1)))] := hD
          refine lv_if_ne (tgt := 95) hx hb dX12_find_30 (by decide) (fun c_30 => ?_) (fun c_30 => ?_)
          · skip
            refine lv_iconst (v := 0) hx hb dX12_find_95 (by decide) ?_
            have hP9 := hP.sub (ws' := [((a 0), .inr (12, zMo a (upd zI0 0 1)))]) [1] rfl
            have hD9 := hD.sub (ws' := [((a 0), .inr (12, zMo a (upd zI0 0 1)))]) [1] (by decide) rfl
            have hK9 := hK.sub (tys' := []) [] rfl
            refine W.widen (k := 0) (n := 0) (Nat.le_of_ble_eq_true rfl) (Nat.le_of_ble_eq_true rfl) ?_
            exact W.iret (v := 0) hx hb hr (fun t ht0 hW => ⟨⟨0, upd zI0 0 1, rfl, (show zS_find p0 p1 p2 p3 p4 1 0 from (.inl ⟨rfl, by omega⟩)), (zE_of hP9 hK9 hD9 ht0 hW)⟩, hS.F ht0⟩) hS.2.2 dX12_find_96
          · skip
            exact absurd c_30 (by decide)
        · skip
          exact absurd c_28 (by decide)
  · skip
    refine lv_if_eq (tgt := 26) hx hb dX12_find_5 (by decide) (fun c_31 => ?_) (fun c_31 => ?_)
    · skip
      refine lv_iconst (v := 0) hx hb dX12_find_26 (by decide) ?_
      have hPc := hP.sub (ws' := [((a 0), .inr (12, zMo a zI0))]) [0] rfl
      have hDc := hD.sub (ws' := [((a 0), .inr (12, zMo a zI0))]) [0] (by decide) rfl
      have hKc := hK.sub (tys' := []) [] rfl
      have hFc := va_free (wc := [((a 0), .inr (12, zMo a zI0))]) hD hS hA [0] rfl
      refine va_calli (va_runV (As := [.int 0]) (rest := []) ⟨hx, hb, hml, hown, ht⟩ (k_X12_lacks l _ D a zI0 0 (by decide)) (cwV 1 ht (zG_V zw_62 zw_63 zw_64 zw_2 zw_65) rfl rfl rfl (by decide +kernel) ⟨Nat.le_of_ble_eq_true rfl, Nat.le_of_ble_eq_true rfl⟩) (zM_V (va_recv hK hP (ci := 12) (q0 := 0) rfl rfl) hPc hKc hDc) rfl rfl hl.1 rfl (lv_room (Nat.le_of_ble_eq_true rfl)) dX12_find_27 ⟨Nat.le_of_ble_eq_true rfl, Nat.le_of_ble_eq_true rfl⟩) hS (fun q _ h => hFc q h) hFc (fun r_32 u_32 t H1 locs ht0 hvm hw_32 hB hz1 hk1 hS => ?_)
      obtain ⟨rfl, rfl⟩ := hw_32.1 rfl
      obtain ⟨hP1, hK1, hD1⟩ := hB
      rw [ht0] at hP1
      have hK1 := va_K.moved hvm.symm hK1
      obtain ⟨hP, hD⟩ := va_join (wr := [((a 1), .inl (cI, 6792, .inl zI0))]) (w1 := [((a 0), .inr (12, zMo a (upd zI0 0 1)))]) hP hD [0] [1] rfl rfl (by decide) (by decide) hk1 hFc hP1 hD1
      generalize H1 = H at hP hS ⊢
      have hP : va_P D vwCl [((a 1), .inl (cI, 6792, .inl zI0)), ((a 0), .inr (12, zMo a (upd zI0 0 1)))] H := hP
      have hD : va_D A [((a 1), .inl (cI, 6792, .inl zI0)), ((a 0), .inr (12, zMo a (upd zI0 0 1)))] := hD
      refine lv_if_ne (tgt := 95) hx hb dX12_find_30 (by decide) (fun c_33 => ?_) (fun c_33 => ?_)
      · skip
        refine lv_iconst (v := 0) hx hb dX12_find_95 (by decide) ?_
        have hP9 := hP.sub (ws' := [((a 0), .inr (12, zMo a (upd zI0 0 1)))]) [1] rfl
        have hD9 := hD.sub (ws' := [((a 0), .inr (12, zMo a (upd zI0 0 1)))]) [1] (by decide) rfl
        have hK9 := hK.sub (tys' := []) [] rfl
        refine W.widen (k := 0) (n := 0) (Nat.le_of_ble_eq_true rfl) (Nat.le_of_ble_eq_true rfl) ?_
        exact W.iret (v := 0) hx hb hr (fun t ht0 hW => ⟨⟨0, upd zI0 0 1, rfl, (show zS_find p0 p1 p2 p3 p4 1 0 from (.inl ⟨rfl, by omega⟩)), (zE_of hP9 hK9 hD9 ht0 hW)⟩, hS.F ht0⟩) hS.2.2 dX12_find_96
      · skip
        exact absurd c_33 (by decide)
    · skip
      exact absurd c_31 (by decide)
set_option maxHeartbeats 4000000 in
set_option maxRecDepth 100000 in
theorem k_X12_undo (l : Launch) (sz : Nat) (D : va_G) (a : Nat → Nat) (cI : ClassId) : Met l yX12_undo (.code yX12_undo cX12_undo 1 (some .int) :: zT) ({ frames := 2, cells := 0, slots := 0, locals := 43 }) (va_Pc [.ref (a 0)] (zM D [((a 0), .inr (12, zMo a zI0)), ((a 1), .inl (cI, 6792, .inl zI0))] [(cI, .int)] sz)) (va_Qi (fun (r : Int32) (u : Nat → Int32) => zS_undo (u 0) r) (fun u t => zE D [(a 0, .inr (12, zMo a u))] [] (va_A [((a 0), .inr (12, zMo a zI0)), ((a 1), .inl (cI, 6792, .inl zI0))] sz) t) (va_A [((a 0), .inr (12, zMo a zI0)), ((a 1), .inl (cI, 6792, .inl zI0))] sz)) 0 0 (va_A [((a 0), .inr (12, zMo a zI0)), ((a 1), .inl (cI, 6792, .inl zI0))] sz) := by
  refine Met.ofW (cc := cX12_undo) (maxL := 1) (ret := (some .int)) (by decide) rfl ?_
  intro p e s m args below meth c s₁ B hml hv
  obtain ⟨rfl, hsz, hP, hK, hD0⟩ := hv
  have hx := B.exec
  have hb := B.bytes
  have hr := B.returns
  have hts := atoms_spec (ws := (.code yX12_undo cX12_undo 1 (some .int) :: zT)) B.pre
  have ht : ∀ w ∈ zT, w.before _ s = true := fun w h => hts w (List.mem_cons_of_mem _ h)
  have hown : s.vm.findClass RX12 = some m.cls := findClass_of_methodNamed B.named
  have hlocks := B.notSynchronized
  subst hsz
  have hD := hD0.self (sz := s.heap.size)
  generalize hAe : va_A [((a 0), .inr (12, zMo a zI0)), ((a 1), .inl (cI, 6792, .inl zI0))] s.heap.size = A at hD ⊢
  have hA : ∀ q : Nat, s.heap.size ≤ q → A q := fun q h => by rw [← hAe]; exact Or.inr h
  have hS : va_S A s.heap s.heap [] := va_S.rf
  have hP : va_P D vwCl [((a 0), .inr (12, zMo a zI0)), ((a 1), .inl (cI, 6792, .inl zI0))] s.heap := hP
  have hl := lv_entry ([.ref (a 0)]) (n := 1) (Nat.le_of_ble_eq_true rfl)
  rw [lg_entry_eq]
  generalize (lg_sl ([.ref (a 0)]) ++ List.replicate (1 - (lg_sl ([.ref (a 0)])).length) Slot.unset).toArray = ls at hl ⊢
  have hl : lv_has ls 1 [(0, .ref (a 0))] := hl
  skip
  refine lv_aload_n hx hb dX12_undo_0 rfl (lv_at hl 0 rfl) ?_
  refine lv_aload_n hx hb dX12_undo_1 rfl (lv_at hl 0 rfl) ?_
  refine va_get (D := D) (ci := 12) (v := .int 0) (C := RX12) (T := TX12) (N := 25) hx hb ht zinX12 hown hK hP 0 rfl rfl 5 (by decide) (ht _ zw_84) (fun _ h9 => h9) rfl dX12_undo_2 ?_
  refine lv_if_le (tgt := 12) hx hb dX12_undo_5 (by decide) (fun c_1 => ?_) (fun c_1 => ?_)
  · skip
    refine lv_iconst (v := 0) hx hb dX12_undo_12 (by decide) ?_
    have hPc := hP.sub (ws' := [((a 0), .inr (12, zMo a zI0))]) [0] rfl
    have hDc := hD.sub (ws' := [((a 0), .inr (12, zMo a zI0))]) [0] (by decide) rfl
    have hKc := hK.sub (tys' := []) [] rfl
    have hFc := va_free (wc := [((a 0), .inr (12, zMo a zI0))]) hD hS hA [0] rfl
    refine va_calli (va_runV (As := [.int 0]) (rest := []) ⟨hx, hb, hml, hown, ht⟩ (k_X12_lacks l _ D a zI0 0 (by decide)) (cwV 1 ht (zG_V zw_62 zw_63 zw_64 zw_2 zw_65) rfl rfl rfl (by decide +kernel) ⟨Nat.le_of_ble_eq_true rfl, Nat.le_of_ble_eq_true rfl⟩) (zM_V (va_recv hK hP (ci := 12) (q0 := 0) rfl rfl) hPc hKc hDc) rfl rfl hl.1 rfl (lv_room (Nat.le_of_ble_eq_true rfl)) dX12_undo_13 ⟨Nat.le_of_ble_eq_true rfl, Nat.le_of_ble_eq_true rfl⟩) hS (fun q _ h => hFc q h) hFc (fun r_2 u_2 t H1 locs ht0 hvm hw_2 hB hz1 hk1 hS => ?_)
    obtain ⟨rfl, rfl⟩ := hw_2.1 rfl
    obtain ⟨hP1, hK1, hD1⟩ := hB
    rw [ht0] at hP1
    have hK1 := va_K.moved hvm.symm hK1
    obtain ⟨hP, hD⟩ := va_join (wr := [((a 1), .inl (cI, 6792, .inl zI0))]) (w1 := [((a 0), .inr (12, zMo a (upd zI0 0 1)))]) hP hD [0] [1] rfl rfl (by decide) (by decide) hk1 hFc hP1 hD1
    generalize H1 = H at hP hS ⊢
    have hP : va_P D vwCl [((a 1), .inl (cI, 6792, .inl zI0)), ((a 0), .inr (12, zMo a (upd zI0 0 1)))] H := hP
    have hD : va_D A [((a 1), .inl (cI, 6792, .inl zI0)), ((a 0), .inr (12, zMo a (upd zI0 0 1)))] := hD
    refine lv_if_eq (tgt := 21) hx hb dX12_undo_16 (by decide) (fun c_3 => ?_) (fun c_3 => ?_)
    · skip
      exact absurd c_3 (by decide)
    · skip
      refine lv_iconst (v := 0) hx hb dX12_undo_19 (by decide) ?_
      have hP9 := hP.sub (ws' := [((a 0), .inr (12, zMo a (upd zI0 0 1)))]) [1] rfl
      have hD9 := hD.sub (ws' := [((a 0), .inr (12, zMo a (upd zI0 0 1)))]) [1] (by decide) rfl
      have hK9 := hK.sub (tys' := []) [] rfl
      refine W.widen (k := 0) (n := 0) (Nat.le_of_ble_eq_true rfl) (Nat.le_of_ble_eq_true rfl) ?_
      exact W.iret (v := 0) hx hb hr (fun t ht0 hW => ⟨⟨0, upd zI0 0 1, rfl, (show zS_undo 1 0 from ⟨rfl, by trivial⟩), (zE_of hP9 hK9 hD9 ht0 hW)⟩, hS.F ht0⟩) hS.2.2 dX12_undo_20
  · skip
    exact absurd c_1 (by decide)
set_option maxHeartbeats 4000000 in
set_option maxRecDepth 100000 in
theorem k_X12_write (l : Launch) (sz : Nat) (D : va_G) (a : Nat → Nat) (cI : ClassId) (p0 : Int32) : Met l yX12_write (.code yX12_write cX12_write 3 (some .int) :: zT) ({ frames := 2, cells := 0, slots := 0, locals := 43 }) (va_Pc [.ref (a 0), .int p0] (zM D [((a 0), .inr (12, zMo a zI0)), ((a 1), .inl (cI, 6792, .inl zI0))] [(cI, .int)] sz)) (va_Qi (fun (r : Int32) (u : Nat → Int32) => zS_write p0 (u 0) r) (fun u t => zE D [(a 0, .inr (12, zMo a u))] [] (va_A [((a 0), .inr (12, zMo a zI0)), ((a 1), .inl (cI, 6792, .inl zI0))] sz) t) (va_A [((a 0), .inr (12, zMo a zI0)), ((a 1), .inl (cI, 6792, .inl zI0))] sz)) 0 0 (va_A [((a 0), .inr (12, zMo a zI0)), ((a 1), .inl (cI, 6792, .inl zI0))] sz) := by
  refine Met.ofW (cc := cX12_write) (maxL := 3) (ret := (some .int)) (by decide) rfl ?_
  intro p e s m args below meth c s₁ B hml hv
  obtain ⟨rfl, hsz, hP, hK, hD0⟩ := hv
  have hx := B.exec
  have hb := B.bytes
  have hr := B.returns
  have hts := atoms_spec (ws := (.code yX12_write cX12_write 3 (some .int) :: zT)) B.pre
  have ht : ∀ w ∈ zT, w.before _ s = true := fun w h => hts w (List.mem_cons_of_mem _ h)
  have hown : s.vm.findClass RX12 = some m.cls := findClass_of_methodNamed B.named
  have hlocks := B.notSynchronized
  subst hsz
  have hD := hD0.self (sz := s.heap.size)
  generalize hAe : va_A [((a 0), .inr (12, zMo a zI0)), ((a 1), .inl (cI, 6792, .inl zI0))] s.heap.size = A at hD ⊢
  have hA : ∀ q : Nat, s.heap.size ≤ q → A q := fun q h => by rw [← hAe]; exact Or.inr h
  have hS : va_S A s.heap s.heap [] := va_S.rf
  have hP : va_P D vwCl [((a 0), .inr (12, zMo a zI0)), ((a 1), .inl (cI, 6792, .inl zI0))] s.heap := hP
  have hl := lv_entry ([.ref (a 0), .int p0]) (n := 3) (Nat.le_of_ble_eq_true rfl)
  rw [lg_entry_eq]
  generalize (lg_sl ([.ref (a 0), .int p0]) ++ List.replicate (3 - (lg_sl ([.ref (a 0), .int p0])).length) Slot.unset).toArray = ls at hl ⊢
  have hl : lv_has ls 3 [(0, .ref (a 0)), (1, .int p0)] := hl
  skip
  refine lv_aload_n hx hb dX12_write_0 rfl (lv_at hl 0 rfl) ?_
  refine lv_iload_n hx hb dX12_write_1 rfl (lv_at hl 1 rfl) ?_
  refine vp_callSi (va_runS (As := [.int p0]) (rest := [.ref (a 0)]) ⟨hx, hb, hml, hown, ht⟩ (k_X12_isRegister l p0) (va_cwS 1 ht (zG_S zw_59 zw_60 zw_2 zw_61) rfl rfl rfl (by decide +kernel) ⟨Nat.le_of_ble_eq_true rfl, Nat.le_of_ble_eq_true rfl⟩) zN_S rfl rfl hl.1 rfl (lv_room (Nat.le_of_ble_eq_true rfl)) dX12_write_2 ⟨Nat.le_of_ble_eq_true rfl, Nat.le_of_ble_eq_true rfl⟩).run (fun r_1 hw_1 => ?_)
  rcases hw_1 with ⟨rfl, h_1⟩ | ⟨rfl, h_1⟩
  · skip
    have hPc := hP.sub (ws' := [((a 0), .inr (12, zMo a zI0))]) [0] rfl
    have hDc := hD.sub (ws' := [((a 0), .inr (12, zMo a zI0))]) [0] (by decide) rfl
    have hKc := hK.sub (tys' := []) [] rfl
    have hFc := va_free (wc := [((a 0), .inr (12, zMo a zI0))]) hD hS hA [0] rfl
    refine va_calli (va_runV (As := [.int 1]) (rest := []) ⟨hx, hb, hml, hown, ht⟩ (k_X12_lacks l _ D a zI0 1 (by decide)) (cwV 1 ht (zG_V zw_62 zw_63 zw_64 zw_2 zw_65) rfl rfl rfl (by decide +kernel) ⟨Nat.le_of_ble_eq_true rfl, Nat.le_of_ble_eq_true rfl⟩) (zM_V (va_recv hK hP (ci := 12) (q0 := 0) rfl rfl) hPc hKc hDc) rfl rfl hl.1 rfl (lv_room (Nat.le_of_ble_eq_true rfl)) dX12_write_5 ⟨Nat.le_of_ble_eq_true rfl, Nat.le_of_ble_eq_true rfl⟩) hS (fun q _ h => hFc q h) hFc (fun r_2 u_2 t H1 locs ht0 hvm hw_2 hB hz1 hk1 hS => ?_)
    obtain ⟨rfl, rfl⟩ := hw_2.2 (by decide)
    obtain ⟨hP1, hK1, hD1⟩ := hB
    rw [ht0] at hP1
    have hK1 := va_K.moved hvm.symm hK1
    obtain ⟨hP, hD⟩ := va_join (wr := [((a 1), .inl (cI, 6792, .inl zI0))]) (w1 := [((a 0), .inr (12, zMo a (upd zI0 0 0)))]) hP hD [0] [1] rfl rfl (by decide) (by decide) hk1 hFc hP1 hD1
    generalize H1 = H at hP hS ⊢
    have hP : va_P D vwCl [((a 1), .inl (cI, 6792, .inl zI0)), ((a 0), .inr (12, zMo a (upd zI0 0 0)))] H := hP
    have hD : va_D A [((a 1), .inl (cI, 6792, .inl zI0)), ((a 0), .inr (12, zMo a (upd zI0 0 0)))] := hD
    refine lv_if_ne (tgt := 24) hx hb dX12_write_8 (by decide) (fun c_3 => ?_) (fun c_3 => ?_)
    · skip
      exact absurd c_3 (by decide)
    · skip
      refine lv_aload_n hx hb dX12_write_11 rfl (lv_at hl 0 rfl) ?_
      refine lv_aload_n hx hb dX12_write_12 rfl (lv_at hl 0 rfl) ?_
      refine lv_iload_n hx hb dX12_write_13 rfl (lv_at hl 1 rfl) ?_
      refine vp_callSi (va_runV (As := [.int p0]) (rest := [.ref (a 0)]) ⟨hx, hb, hml, hown, ht⟩ (k_X12_isFull l D a (upd zI0 0 0) cI p0 h_1) (cwV 1 ht (zG_V zw_69 zw_70 zw_71 zw_2 zw_72) rfl rfl rfl (by decide +kernel) ⟨Nat.le_of_ble_eq_true rfl, Nat.le_of_ble_eq_true rfl⟩) (zR_V (va_recv hK hP (ci := 12) (q0 := 1) rfl rfl) (hP.sub (ws' := [((a 0), .inr (12, zMo a (upd zI0 0 0))), ((a 1), .inl (cI, 6792, .inl zI0))]) [1, 0] rfl) hK) rfl rfl hl.1 rfl (lv_room (Nat.le_of_ble_eq_true rfl)) dX12_write_14 ⟨Nat.le_of_ble_eq_true rfl, Nat.le_of_ble_eq_true rfl⟩).run (fun r_4 hw_4 => ?_)
      obtain rfl : r_4 = 0 := hw_4
      refine lv_iconst (v := 2) hx hb dX12_write_17 (by decide) ?_
      have hPc := hP.sub (ws' := [((a 0), .inr (12, zMo a (upd zI0 0 0)))]) [1] rfl
      have hDc := hD.sub (ws' := [((a 0), .inr (12, zMo a (upd zI0 0 0)))]) [1] (by decide) rfl
      have hKc := hK.sub (tys' := []) [] rfl
      have hFc := va_free (wc := [((a 0), .inr (12, zMo a (upd zI0 0 0)))]) hD hS hA [1] rfl
      refine va_calli (va_runV (As := [.int 0, .int 2]) (rest := []) ⟨hx, hb, hml, hown, ht⟩ (k_X12_no l _ D a (upd zI0 0 0) 0 2 (by decide)) (cwV 2 ht (zG_V zw_30 zw_31 zw_32 zw_2 zw_33) rfl rfl rfl (by decide +kernel) ⟨Nat.le_of_ble_eq_true rfl, Nat.le_of_ble_eq_true rfl⟩) (zM_V (va_recv hK hP (ci := 12) (q0 := 1) rfl rfl) hPc hKc hDc) rfl rfl hl.1 rfl (lv_room (Nat.le_of_ble_eq_true rfl)) dX12_write_18 ⟨Nat.le_of_ble_eq_true rfl, Nat.le_of_ble_eq_true rfl⟩) hS (fun q _ h => hFc q h) hFc (fun r_5 u_5 t H1 locs ht0 hvm hw_5 hB hz1 hk1 hS => ?_)
      obtain ⟨rfl, rfl⟩ := hw_5.1 rfl
      obtain ⟨hP1, hK1, hD1⟩ := hB
      rw [ht0] at hP1
      have hK1 := va_K.moved hvm.symm hK1
      obtain ⟨hP, hD⟩ := va_join (wr := [((a 1), .inl (cI, 6792, .inl zI0))]) (w1 := [((a 0), .inr (12, zMo a (upd zI0 0 2)))]) hP hD [1] [0] rfl rfl (by decide) (by decide) hk1 hFc hP1 hD1
      generalize H1 = H at hP hS ⊢
      have hP : va_P D vwCl [((a 1), .inl (cI, 6792, .inl zI0)), ((a 0), .inr (12, zMo a (upd zI0 0 2)))] H := hP
      have hD : va_D A [((a 1), .inl (cI, 6792, .inl zI0)), ((a 0), .inr (12, zMo a (upd zI0 0 2)))] := hD
      refine lv_if_eq (tgt := 26) hx hb dX12_write_21 (by decide) (fun c_6 => ?_) (fun c_6 => ?_)
      · skip
        exact absurd c_6 (by decide)
      · skip
        refine lv_iconst (v := 0) hx hb dX12_write_24 (by decide) ?_
        have hP9 := hP.sub (ws' := [((a 0), .inr (12, zMo a (upd zI0 0 2)))]) [1] rfl
        have hD9 := hD.sub (ws' := [((a 0), .inr (12, zMo a (upd zI0 0 2)))]) [1] (by decide) rfl
        have hK9 := hK.sub (tys' := []) [] rfl
        refine W.widen (k := 0) (n := 0) (Nat.le_of_ble_eq_true rfl) (Nat.le_of_ble_eq_true rfl) ?_
        exact W.iret (v := 0) hx hb hr (fun t ht0 hW => ⟨⟨0, upd zI0 0 2, rfl, (show zS_write p0 2 0 from (.inr ⟨rfl, by omega⟩)), (zE_of hP9 hK9 hD9 ht0 hW)⟩, hS.F ht0⟩) hS.2.2 dX12_write_25
  · skip
    have hPc := hP.sub (ws' := [((a 0), .inr (12, zMo a zI0))]) [0] rfl
    have hDc := hD.sub (ws' := [((a 0), .inr (12, zMo a zI0))]) [0] (by decide) rfl
    have hKc := hK.sub (tys' := []) [] rfl
    have hFc := va_free (wc := [((a 0), .inr (12, zMo a zI0))]) hD hS hA [0] rfl
    refine va_calli (va_runV (As := [.int 0]) (rest := []) ⟨hx, hb, hml, hown, ht⟩ (k_X12_lacks l _ D a zI0 0 (by decide)) (cwV 1 ht (zG_V zw_62 zw_63 zw_64 zw_2 zw_65) rfl rfl rfl (by decide +kernel) ⟨Nat.le_of_ble_eq_true rfl, Nat.le_of_ble_eq_true rfl⟩) (zM_V (va_recv hK hP (ci := 12) (q0 := 0) rfl rfl) hPc hKc hDc) rfl rfl hl.1 rfl (lv_room (Nat.le_of_ble_eq_true rfl)) dX12_write_5 ⟨Nat.le_of_ble_eq_true rfl, Nat.le_of_ble_eq_true rfl⟩) hS (fun q _ h => hFc q h) hFc (fun r_7 u_7 t H1 locs ht0 hvm hw_7 hB hz1 hk1 hS => ?_)
    obtain ⟨rfl, rfl⟩ := hw_7.1 rfl
    obtain ⟨hP1, hK1, hD1⟩ := hB
    rw [ht0] at hP1
    have hK1 := va_K.moved hvm.symm hK1
    obtain ⟨hP, hD⟩ := va_join (wr := [((a 1), .inl (cI, 6792, .inl zI0))]) (w1 := [((a 0), .inr (12, zMo a (upd zI0 0 1)))]) hP hD [0] [1] rfl rfl (by decide) (by decide) hk1 hFc hP1 hD1
    generalize H1 = H at hP hS ⊢
    have hP : va_P D vwCl [((a 1), .inl (cI, 6792, .inl zI0)), ((a 0), .inr (12, zMo a (upd zI0 0 1)))] H := hP
    have hD : va_D A [((a 1), .inl (cI, 6792, .inl zI0)), ((a 0), .inr (12, zMo a (upd zI0 0 1)))] := hD
    refine lv_if_ne (tgt := 24) hx hb dX12_write_8 (by decide) (fun c_8 => ?_) (fun c_8 => ?_)
    · skip
      refine lv_iconst (v := 0) hx hb dX12_write_24 (by decide) ?_
      have hP9 := hP.sub (ws' := [((a 0), .inr (12, zMo a (upd zI0 0 1)))]) [1] rfl
      have hD9 := hD.sub (ws' := [((a 0), .inr (12, zMo a (upd zI0 0 1)))]) [1] (by decide) rfl
      have hK9 := hK.sub (tys' := []) [] rfl
      refine W.widen (k := 0) (n := 0) (Nat.le_of_ble_eq_true rfl) (Nat.le_of_ble_eq_true rfl) ?_
      exact W.iret (v := 0) hx hb hr (fun t ht0 hW => ⟨⟨0, upd zI0 0 1, rfl, (show zS_write p0 1 0 from (.inl ⟨rfl, by omega⟩)), (zE_of hP9 hK9 hD9 ht0 hW)⟩, hS.F ht0⟩) hS.2.2 dX12_write_25
    · skip
      exact absurd c_8 (by decide)
set_option maxHeartbeats 4000000 in
set_option maxRecDepth 100000 in
theorem k_X12_writeLaw (l : Launch) (sz : Nat) (D : va_G) (a : Nat → Nat) (cI : ClassId) (p0 : Int32) : Met l yX12_writeLaw (.code yX12_writeLaw cX12_writeLaw 4 (some .int) :: zT) ({ frames := 2, cells := 0, slots := 0, locals := 43 }) (va_Pc [.ref (a 0), .int p0] (zM D [((a 0), .inr (12, zMo a zI0)), ((a 1), .inl (cI, 6792, .inl zI0))] [(cI, .int)] sz)) (va_Qi (fun (r : Int32) (u : Nat → Int32) => zS_writeLaw p0 (u 0) r) (fun u t => zE D [(a 0, .inr (12, zMo a u))] [] (va_A [((a 0), .inr (12, zMo a zI0)), ((a 1), .inl (cI, 6792, .inl zI0))] sz) t) (va_A [((a 0), .inr (12, zMo a zI0)), ((a 1), .inl (cI, 6792, .inl zI0))] sz)) 0 0 (va_A [((a 0), .inr (12, zMo a zI0)), ((a 1), .inl (cI, 6792, .inl zI0))] sz) := by
  refine Met.ofW (cc := cX12_writeLaw) (maxL := 4) (ret := (some .int)) (by decide) rfl ?_
  intro p e s m args below meth c s₁ B hml hv
  obtain ⟨rfl, hsz, hP, hK, hD0⟩ := hv
  have hx := B.exec
  have hb := B.bytes
  have hr := B.returns
  have hts := atoms_spec (ws := (.code yX12_writeLaw cX12_writeLaw 4 (some .int) :: zT)) B.pre
  have ht : ∀ w ∈ zT, w.before _ s = true := fun w h => hts w (List.mem_cons_of_mem _ h)
  have hown : s.vm.findClass RX12 = some m.cls := findClass_of_methodNamed B.named
  have hlocks := B.notSynchronized
  subst hsz
  have hD := hD0.self (sz := s.heap.size)
  generalize hAe : va_A [((a 0), .inr (12, zMo a zI0)), ((a 1), .inl (cI, 6792, .inl zI0))] s.heap.size = A at hD ⊢
  have hA : ∀ q : Nat, s.heap.size ≤ q → A q := fun q h => by rw [← hAe]; exact Or.inr h
  have hS : va_S A s.heap s.heap [] := va_S.rf
  have hP : va_P D vwCl [((a 0), .inr (12, zMo a zI0)), ((a 1), .inl (cI, 6792, .inl zI0))] s.heap := hP
  have hl := lv_entry ([.ref (a 0), .int p0]) (n := 4) (Nat.le_of_ble_eq_true rfl)
  rw [lg_entry_eq]
  generalize (lg_sl ([.ref (a 0), .int p0]) ++ List.replicate (4 - (lg_sl ([.ref (a 0), .int p0])).length) Slot.unset).toArray = ls at hl ⊢
  have hl : lv_has ls 4 [(0, .ref (a 0)), (1, .int p0)] := hl
  skip
  refine lv_aload_n hx hb dX12_writeLaw_0 rfl (lv_at hl 0 rfl) ?_
  refine lv_iload_n hx hb dX12_writeLaw_1 rfl (lv_at hl 1 rfl) ?_
  refine vp_callSi (va_runV (As := [.int p0]) (rest := []) ⟨hx, hb, hml, hown, ht⟩ (k_X12_atLaw l D a zI0 cI p0) (cwV 1 ht (zG_V zw_73 zw_74 zw_75 zw_2 zw_76) rfl rfl rfl (by decide +kernel) ⟨Nat.le_of_ble_eq_true rfl, Nat.le_of_ble_eq_true rfl⟩) (zR_V (va_recv hK hP (ci := 12) (q0 := 0) rfl rfl) hP hK) rfl rfl hl.1 rfl (lv_room (Nat.le_of_ble_eq_true rfl)) dX12_writeLaw_2 ⟨Nat.le_of_ble_eq_true rfl, Nat.le_of_ble_eq_true rfl⟩).run (fun r_1 hw_1 => ?_)
  obtain rfl : r_1 = (-1) := hw_1
  refine lv_istore_n (lv' := [(2, .int (-1)), (0, .ref (a 0)), (1, .int p0)]) hx hb dX12_writeLaw_5 rfl hl (by decide) rfl (fun ls hl => ?_)
  refine lv_aload_n hx hb dX12_writeLaw_6 rfl (lv_at hl 1 rfl) ?_
  refine lv_iload_n hx hb dX12_writeLaw_7 rfl (lv_at hl 0 rfl) ?_
  refine lv_iconst (v := (-1)) hx hb dX12_writeLaw_8 (by decide) ?_
  refine lv_icmp_eq (tgt := 16) hx hb dX12_writeLaw_9 (by decide) (fun c_2 => ?_) (fun c_2 => ?_)
  · skip
    refine lv_iconst (v := 0) hx hb dX12_writeLaw_16 (by decide) ?_
    have hPc := hP.sub (ws' := [((a 0), .inr (12, zMo a zI0))]) [0] rfl
    have hDc := hD.sub (ws' := [((a 0), .inr (12, zMo a zI0))]) [0] (by decide) rfl
    have hKc := hK.sub (tys' := []) [] rfl
    have hFc := va_free (wc := [((a 0), .inr (12, zMo a zI0))]) hD hS hA [0] rfl
    refine va_calli (va_runV (As := [.int 0]) (rest := []) ⟨hx, hb, hml, hown, ht⟩ (k_X12_lacks l _ D a zI0 0 (by decide)) (cwV 1 ht (zG_V zw_62 zw_63 zw_64 zw_2 zw_65) rfl rfl rfl (by decide +kernel) ⟨Nat.le_of_ble_eq_true rfl, Nat.le_of_ble_eq_true rfl⟩) (zM_V (va_recv hK hP (ci := 12) (q0 := 0) rfl rfl) hPc hKc hDc) rfl rfl hl.1 rfl (lv_room (Nat.le_of_ble_eq_true rfl)) dX12_writeLaw_17 ⟨Nat.le_of_ble_eq_true rfl, Nat.le_of_ble_eq_true rfl⟩) hS (fun q _ h => hFc q h) hFc (fun r_3 u_3 t H1 locs ht0 hvm hw_3 hB hz1 hk1 hS => ?_)
    obtain ⟨rfl, rfl⟩ := hw_3.1 rfl
    obtain ⟨hP1, hK1, hD1⟩ := hB
    rw [ht0] at hP1
    have hK1 := va_K.moved hvm.symm hK1
    obtain ⟨hP, hD⟩ := va_join (wr := [((a 1), .inl (cI, 6792, .inl zI0))]) (w1 := [((a 0), .inr (12, zMo a (upd zI0 0 1)))]) hP hD [0] [1] rfl rfl (by decide) (by decide) hk1 hFc hP1 hD1
    generalize H1 = H at hP hS ⊢
    have hP : va_P D vwCl [((a 1), .inl (cI, 6792, .inl zI0)), ((a 0), .inr (12, zMo a (upd zI0 0 1)))] H := hP
    have hD : va_D A [((a 1), .inl (cI, 6792, .inl zI0)), ((a 0), .inr (12, zMo a (upd zI0 0 1)))] := hD
    refine lv_if_eq (tgt := 25) hx hb dX12_writeLaw_20 (by decide) (fun c_4 => ?_) (fun c_4 => ?_)
    · skip
      exact absurd c_4 (by decide)
    · skip
      refine lv_iconst (v := 0) hx hb dX12_writeLaw_23 (by decide) ?_
      have hP9 := hP.sub (ws' := [((a 0), .inr (12, zMo a (upd zI0 0 1)))]) [1] rfl
      have hD9 := hD.sub (ws' := [((a 0), .inr (12, zMo a (upd zI0 0 1)))]) [1] (by decide) rfl
      have hK9 := hK.sub (tys' := []) [] rfl
      refine W.widen (k := 0) (n := 0) (Nat.le_of_ble_eq_true rfl) (Nat.le_of_ble_eq_true rfl) ?_
      exact W.iret (v := 0) hx hb hr (fun t ht0 hW => ⟨⟨0, upd zI0 0 1, rfl, (show zS_writeLaw p0 1 0 from ⟨rfl, by trivial⟩), (zE_of hP9 hK9 hD9 ht0 hW)⟩, hS.F ht0⟩) hS.2.2 dX12_writeLaw_24
  · skip
    exact absurd c_2 (by decide)
set_option maxHeartbeats 4000000 in
set_option maxRecDepth 100000 in
theorem k_X12_outputAt (l : Launch) (sz : Nat) (D : va_G) (a : Nat → Nat) (cI : ClassId) (p0 : Int32) : Met l yX12_outputAt (.code yX12_outputAt cX12_outputAt 2 (some .int) :: zT) ({ frames := 2, cells := 0, slots := 0, locals := 43 }) (va_Pc [.ref (a 0), .int p0] (zM D [((a 0), .inr (12, zMo a zI0)), ((a 1), .inl (cI, 6792, .inl zI0))] [(cI, .int)] sz)) (va_Qi (fun (r : Int32) (u : Nat → Int32) => zS_outputAt p0 (u 0) r) (fun u t => zE D [(a 0, .inr (12, zMo a u))] [] (va_A [((a 0), .inr (12, zMo a zI0)), ((a 1), .inl (cI, 6792, .inl zI0))] sz) t) (va_A [((a 0), .inr (12, zMo a zI0)), ((a 1), .inl (cI, 6792, .inl zI0))] sz)) 0 0 (va_A [((a 0), .inr (12, zMo a zI0)), ((a 1), .inl (cI, 6792, .inl zI0))] sz) := by
  refine Met.ofW (cc := cX12_outputAt) (maxL := 2) (ret := (some .int)) (by decide) rfl ?_
  intro p e s m args below meth c s₁ B hml hv
  obtain ⟨rfl, hsz, hP, hK, hD0⟩ := hv
  have hx := B.exec
  have hb := B.bytes
  have hr := B.returns
  have hts := atoms_spec (ws := (.code yX12_outputAt cX12_outputAt 2 (some .int) :: zT)) B.pre
  have ht : ∀ w ∈ zT, w.before _ s = true := fun w h => hts w (List.mem_cons_of_mem _ h)
  have hown : s.vm.findClass RX12 = some m.cls := findClass_of_methodNamed B.named
  have hlocks := B.notSynchronized
  subst hsz
  have hD := hD0.self (sz := s.heap.size)
  generalize hAe : va_A [((a 0), .inr (12, zMo a zI0)), ((a 1), .inl (cI, 6792, .inl zI0))] s.heap.size = A at hD ⊢
  have hA : ∀ q : Nat, s.heap.size ≤ q → A q := fun q h => by rw [← hAe]; exact Or.inr h
  have hS : va_S A s.heap s.heap [] := va_S.rf
  have hP : va_P D vwCl [((a 0), .inr (12, zMo a zI0)), ((a 1), .inl (cI, 6792, .inl zI0))] s.heap := hP
  have hl := lv_entry ([.ref (a 0), .int p0]) (n := 2) (Nat.le_of_ble_eq_true rfl)
  rw [lg_entry_eq]
  generalize (lg_sl ([.ref (a 0), .int p0]) ++ List.replicate (2 - (lg_sl ([.ref (a 0), .int p0])).length) Slot.unset).toArray = ls at hl ⊢
  have hl : lv_has ls 2 [(0, .ref (a 0)), (1, .int p0)] := hl
  skip
  refine lv_aload_n hx hb dX12_outputAt_0 rfl (lv_at hl 0 rfl) ?_
  refine lv_iload_n hx hb dX12_outputAt_1 rfl (lv_at hl 1 rfl) ?_
  refine lv_iconst (v := 0) hx hb dX12_outputAt_2 (by decide) ?_
  refine lv_aload_n hx hb dX12_outputAt_3 rfl (lv_at hl 0 rfl) ?_
  refine va_get (D := D) (ci := 12) (v := .int 0) (C := RX12) (T := TX12) (N := 25) hx hb ht zinX12 hown hK hP 0 rfl rfl 12 (by decide) (ht _ zw_85) (fun _ h9 => h9) rfl dX12_outputAt_4 ?_
  refine lv_iconst (v := 1) hx hb dX12_outputAt_7 (by decide) ?_
  refine lv_isub hx hb dX12_outputAt_8 ?_
  refine lv_topi (fun x_1 e_1 => ?_)
  obtain rfl : x_1 = (-1) := e_1.trans (by decide)
  refine vp_callSi (va_runS (As := [.int p0, .int 0, .int (-1)]) (rest := [.ref (a 0)]) ⟨hx, hb, hml, hown, ht⟩ (k_X12_in l p0 0 (-1)) (va_cwS 3 ht (zG_S zw_0 zw_1 zw_2 zw_3) rfl rfl rfl (by decide +kernel) ⟨Nat.le_of_ble_eq_true rfl, Nat.le_of_ble_eq_true rfl⟩) zN_S rfl rfl hl.1 rfl (lv_room (Nat.le_of_ble_eq_true rfl)) dX12_outputAt_9 ⟨Nat.le_of_ble_eq_true rfl, Nat.le_of_ble_eq_true rfl⟩).run (fun r_2 hw_2 => ?_)
  rcases hw_2 with ⟨rfl, h_2⟩ | ⟨rfl, h_2⟩
  · skip
    simp only [Int32.reduceToInt] at h_2
    exfalso; omega
  · skip
    simp only [Int32.reduceToInt] at h_2
    have hPc := hP.sub (ws' := [((a 0), .inr (12, zMo a zI0))]) [0] rfl
    have hDc := hD.sub (ws' := [((a 0), .inr (12, zMo a zI0))]) [0] (by decide) rfl
    have hKc := hK.sub (tys' := []) [] rfl
    have hFc := va_free (wc := [((a 0), .inr (12, zMo a zI0))]) hD hS hA [0] rfl
    refine va_calli (va_runV (As := [.int 0]) (rest := []) ⟨hx, hb, hml, hown, ht⟩ (k_X12_lacks l _ D a zI0 0 (by decide)) (cwV 1 ht (zG_V zw_62 zw_63 zw_64 zw_2 zw_65) rfl rfl rfl (by decide +kernel) ⟨Nat.le_of_ble_eq_true rfl, Nat.le_of_ble_eq_true rfl⟩) (zM_V (va_recv hK hP (ci := 12) (q0 := 0) rfl rfl) hPc hKc hDc) rfl rfl hl.1 rfl (lv_room (Nat.le_of_ble_eq_true rfl)) dX12_outputAt_12 ⟨Nat.le_of_ble_eq_true rfl, Nat.le_of_ble_eq_true rfl⟩) hS (fun q _ h => hFc q h) hFc (fun r_3 u_3 t H1 locs ht0 hvm hw_3 hB hz1 hk1 hS => ?_)
    obtain ⟨rfl, rfl⟩ := hw_3.1 rfl
    obtain ⟨hP1, hK1, hD1⟩ := hB
    rw [ht0] at hP1
    have hK1 := va_K.moved hvm.symm hK1
    obtain ⟨hP, hD⟩ := va_join (wr := [((a 1), .inl (cI, 6792, .inl zI0))]) (w1 := [((a 0), .inr (12, zMo a (upd zI0 0 1)))]) hP hD [0] [1] rfl rfl (by decide) (by decide) hk1 hFc hP1 hD1
    generalize H1 = H at hP hS ⊢
    have hP : va_P D vwCl [((a 1), .inl (cI, 6792, .inl zI0)), ((a 0), .inr (12, zMo a (upd zI0 0 1)))] H := hP
    have hD : va_D A [((a 1), .inl (cI, 6792, .inl zI0)), ((a 0), .inr (12, zMo a (upd zI0 0 1)))] := hD
    refine lv_if_eq (tgt := 22) hx hb dX12_outputAt_15 (by decide) (fun c_4 => ?_) (fun c_4 => ?_)
    · skip
      exact absurd c_4 (by decide)
    · skip
      refine lv_iconst (v := 0) hx hb dX12_outputAt_18 (by decide) ?_
      refine lv_goto (tgt := 28) hx hb dX12_outputAt_19 (by decide) ?_
      have hP9 := hP.sub (ws' := [((a 0), .inr (12, zMo a (upd zI0 0 1)))]) [1] rfl
      have hD9 := hD.sub (ws' := [((a 0), .inr (12, zMo a (upd zI0 0 1)))]) [1] (by decide) rfl
      have hK9 := hK.sub (tys' := []) [] rfl
      refine W.widen (k := 0) (n := 0) (Nat.le_of_ble_eq_true rfl) (Nat.le_of_ble_eq_true rfl) ?_
      exact W.iret (v := 0) hx hb hr (fun t ht0 hW => ⟨⟨0, upd zI0 0 1, rfl, (show zS_outputAt p0 1 0 from ⟨rfl, by trivial⟩), (zE_of hP9 hK9 hD9 ht0 hW)⟩, hS.F ht0⟩) hS.2.2 dX12_outputAt_28
set_option maxHeartbeats 4000000 in
set_option maxRecDepth 100000 in
theorem k_X12_termAt (l : Launch) (sz : Nat) (D : va_G) (a : Nat → Nat) (cI : ClassId) (p0 p1 : Int32) : Met l yX12_termAt (.code yX12_termAt cX12_termAt 4 (some .int) :: zT) ({ frames := 2, cells := 0, slots := 0, locals := 43 }) (va_Pc [.ref (a 0), .int p0, .int p1] (zM D [((a 0), .inr (12, zMo a zI0)), ((a 1), .inl (cI, 6792, .inl zI0))] [(cI, .int)] sz)) (va_Qi (fun (r : Int32) (u : Nat → Int32) => zS_termAt p0 p1 (u 0) r) (fun u t => zE D [(a 0, .inr (12, zMo a u))] [] (va_A [((a 0), .inr (12, zMo a zI0)), ((a 1), .inl (cI, 6792, .inl zI0))] sz) t) (va_A [((a 0), .inr (12, zMo a zI0)), ((a 1), .inl (cI, 6792, .inl zI0))] sz)) 0 0 (va_A [((a 0), .inr (12, zMo a zI0)), ((a 1), .inl (cI, 6792, .inl zI0))] sz) := by
  refine Met.ofW (cc := cX12_termAt) (maxL := 4) (ret := (some .int)) (by decide) rfl ?_
  intro p e s m args below meth c s₁ B hml hv
  obtain ⟨rfl, hsz, hP, hK, hD0⟩ := hv
  have hx := B.exec
  have hb := B.bytes
  have hr := B.returns
  have hts := atoms_spec (ws := (.code yX12_termAt cX12_termAt 4 (some .int) :: zT)) B.pre
  have ht : ∀ w ∈ zT, w.before _ s = true := fun w h => hts w (List.mem_cons_of_mem _ h)
  have hown : s.vm.findClass RX12 = some m.cls := findClass_of_methodNamed B.named
  have hlocks := B.notSynchronized
  subst hsz
  have hD := hD0.self (sz := s.heap.size)
  generalize hAe : va_A [((a 0), .inr (12, zMo a zI0)), ((a 1), .inl (cI, 6792, .inl zI0))] s.heap.size = A at hD ⊢
  have hA : ∀ q : Nat, s.heap.size ≤ q → A q := fun q h => by rw [← hAe]; exact Or.inr h
  have hS : va_S A s.heap s.heap [] := va_S.rf
  have hP : va_P D vwCl [((a 0), .inr (12, zMo a zI0)), ((a 1), .inl (cI, 6792, .inl zI0))] s.heap := hP
  have hl := lv_entry ([.ref (a 0), .int p0, .int p1]) (n := 4) (Nat.le_of_ble_eq_true rfl)
  rw [lg_entry_eq]
  generalize (lg_sl ([.ref (a 0), .int p0, .int p1]) ++ List.replicate (4 - (lg_sl ([.ref (a 0), .int p0, .int p1])).length) Slot.unset).toArray = ls at hl ⊢
  have hl : lv_has ls 4 [(0, .ref (a 0)), (1, .int p0), (2, .int p1)] := hl
  skip
  refine lv_aload_n hx hb dX12_termAt_0 rfl (lv_at hl 0 rfl) ?_
  refine lv_iload_n hx hb dX12_termAt_1 rfl (lv_at hl 1 rfl) ?_
  refine vp_callSi (va_runS (As := [.int p0]) (rest := [.ref (a 0)]) ⟨hx, hb, hml, hown, ht⟩ (k_X12_isRegister l p0) (va_cwS 1 ht (zG_S zw_59 zw_60 zw_2 zw_61) rfl rfl rfl (by decide +kernel) ⟨Nat.le_of_ble_eq_true rfl, Nat.le_of_ble_eq_true rfl⟩) zN_S rfl rfl hl.1 rfl (lv_room (Nat.le_of_ble_eq_true rfl)) dX12_termAt_2 ⟨Nat.le_of_ble_eq_true rfl, Nat.le_of_ble_eq_true rfl⟩).run (fun r_1 hw_1 => ?_)
  rcases hw_1 with ⟨rfl, h_1⟩ | ⟨rfl, h_1⟩
  · skip
    have hPc := hP.sub (ws' := [((a 0), .inr (12, zMo a zI0))]) [0] rfl
    have hDc := hD.sub (ws' := [((a 0), .inr (12, zMo a zI0))]) [0] (by decide) rfl
    have hKc := hK.sub (tys' := []) [] rfl
    have hFc := va_free (wc := [((a 0), .inr (12, zMo a zI0))]) hD hS hA [0] rfl
    refine va_calli (va_runV (As := [.int 1]) (rest := []) ⟨hx, hb, hml, hown, ht⟩ (k_X12_lacks l _ D a zI0 1 (by decide)) (cwV 1 ht (zG_V zw_62 zw_63 zw_64 zw_2 zw_65) rfl rfl rfl (by decide +kernel) ⟨Nat.le_of_ble_eq_true rfl, Nat.le_of_ble_eq_true rfl⟩) (zM_V (va_recv hK hP (ci := 12) (q0 := 0) rfl rfl) hPc hKc hDc) rfl rfl hl.1 rfl (lv_room (Nat.le_of_ble_eq_true rfl)) dX12_termAt_5 ⟨Nat.le_of_ble_eq_true rfl, Nat.le_of_ble_eq_true rfl⟩) hS (fun q _ h => hFc q h) hFc (fun r_2 u_2 t H1 locs ht0 hvm hw_2 hB hz1 hk1 hS => ?_)
    obtain ⟨rfl, rfl⟩ := hw_2.2 (by decide)
    obtain ⟨hP1, hK1, hD1⟩ := hB
    rw [ht0] at hP1
    have hK1 := va_K.moved hvm.symm hK1
    obtain ⟨hP, hD⟩ := va_join (wr := [((a 1), .inl (cI, 6792, .inl zI0))]) (w1 := [((a 0), .inr (12, zMo a (upd zI0 0 0)))]) hP hD [0] [1] rfl rfl (by decide) (by decide) hk1 hFc hP1 hD1
    generalize H1 = H at hP hS ⊢
    have hP : va_P D vwCl [((a 1), .inl (cI, 6792, .inl zI0)), ((a 0), .inr (12, zMo a (upd zI0 0 0)))] H := hP
    have hD : va_D A [((a 1), .inl (cI, 6792, .inl zI0)), ((a 0), .inr (12, zMo a (upd zI0 0 0)))] := hD
    refine lv_if_ne (tgt := 25) hx hb dX12_termAt_8 (by decide) (fun c_3 => ?_) (fun c_3 => ?_)
    · skip
      exact absurd c_3 (by decide)
    · skip
      refine lv_aload_n hx hb dX12_termAt_11 rfl (lv_at hl 0 rfl) ?_
      refine lv_iload_n hx hb dX12_termAt_12 rfl (lv_at hl 2 rfl) ?_
      refine lv_iconst (v := 0) hx hb dX12_termAt_13 (by decide) ?_
      refine lv_iconst (v := 3) hx hb dX12_termAt_14 (by decide) ?_
      refine vp_callSi (va_runS (As := [.int p1, .int 0, .int 3]) (rest := [.ref (a 0)]) ⟨hx, hb, hml, hown, ht⟩ (k_X12_in l p1 0 3) (va_cwS 3 ht (zG_S zw_0 zw_1 zw_2 zw_3) rfl rfl rfl (by decide +kernel) ⟨Nat.le_of_ble_eq_true rfl, Nat.le_of_ble_eq_true rfl⟩) zN_S rfl rfl hl.1 rfl (lv_room (Nat.le_of_ble_eq_true rfl)) dX12_termAt_15 ⟨Nat.le_of_ble_eq_true rfl, Nat.le_of_ble_eq_true rfl⟩).run (fun r_4 hw_4 => ?_)
      rcases hw_4 with ⟨rfl, h_4⟩ | ⟨rfl, h_4⟩
      · skip
        simp only [Int32.reduceToInt] at h_4
        refine lv_iconst (v := 2) hx hb dX12_termAt_18 (by decide) ?_
        have hPc := hP.sub (ws' := [((a 0), .inr (12, zMo a (upd zI0 0 0)))]) [1] rfl
        have hDc := hD.sub (ws' := [((a 0), .inr (12, zMo a (upd zI0 0 0)))]) [1] (by decide) rfl
        have hKc := hK.sub (tys' := []) [] rfl
        have hFc := va_free (wc := [((a 0), .inr (12, zMo a (upd zI0 0 0)))]) hD hS hA [1] rfl
        refine va_calli (va_runV (As := [.int 1, .int 2]) (rest := []) ⟨hx, hb, hml, hown, ht⟩ (k_X12_no l _ D a (upd zI0 0 0) 1 2 (by decide)) (cwV 2 ht (zG_V zw_30 zw_31 zw_32 zw_2 zw_33) rfl rfl rfl (by decide +kernel) ⟨Nat.le_of_ble_eq_true rfl, Nat.le_of_ble_eq_true rfl⟩) (zM_V (va_recv hK hP (ci := 12) (q0 := 1) rfl rfl) hPc hKc hDc) rfl rfl hl.1 rfl (lv_room (Nat.le_of_ble_eq_true rfl)) dX12_termAt_19 ⟨Nat.le_of_ble_eq_true rfl, Nat.le_of_ble_eq_true rfl⟩) hS (fun q _ h => hFc q h) hFc (fun r_5 u_5 t H1 locs ht0 hvm hw_5 hB hz1 hk1 hS => ?_)
        obtain ⟨rfl, rfl⟩ := hw_5.2 (by decide)
        obtain ⟨hP1, hK1, hD1⟩ := hB
        rw [ht0] at hP1
        have hK1 := va_K.moved hvm.symm hK1
        obtain ⟨hP, hD⟩ := va_join (wr := [((a 1), .inl (cI, 6792, .inl zI0))]) (w1 := [((a 0), .inr (12, zMo a (upd zI0 0 0)))]) hP hD [1] [0] rfl rfl (by decide) (by decide) hk1 hFc hP1 hD1
        generalize H1 = H at hP hS ⊢
        have hP : va_P D vwCl [((a 1), .inl (cI, 6792, .inl zI0)), ((a 0), .inr (12, zMo a (upd zI0 0 0)))] H := hP
        have hD : va_D A [((a 1), .inl (cI, 6792, .inl zI0)), ((a 0), .inr (12, zMo a (upd zI0 0 0)))] := hD
        refine lv_if_eq (tgt := 27) hx hb dX12_termAt_22 (by decide) (fun c_6 => ?_) (fun c_6 => ?_)
        · skip
          refine lv_aload_n hx hb dX12_termAt_27 rfl (lv_at hl 0 rfl) ?_
          refine lv_iload_n hx hb dX12_termAt_28 rfl (lv_at hl 1 rfl) ?_
          refine vp_callSi (va_runV (As := [.int p0]) (rest := []) ⟨hx, hb, hml, hown, ht⟩ (k_X12_isFull l D a (upd zI0 0 0) cI p0 h_1) (cwV 1 ht (zG_V zw_69 zw_70 zw_71 zw_2 zw_72) rfl rfl rfl (by decide +kernel) ⟨Nat.le_of_ble_eq_true rfl, Nat.le_of_ble_eq_true rfl⟩) (zR_V (va_recv hK hP (ci := 12) (q0 := 1) rfl rfl) (hP.sub (ws' := [((a 0), .inr (12, zMo a (upd zI0 0 0))), ((a 1), .inl (cI, 6792, .inl zI0))]) [1, 0] rfl) hK) rfl rfl hl.1 rfl (lv_room (Nat.le_of_ble_eq_true rfl)) dX12_termAt_29 ⟨Nat.le_of_ble_eq_true rfl, Nat.le_of_ble_eq_true rfl⟩).run (fun r_7 hw_7 => ?_)
          obtain rfl : r_7 = 0 := hw_7
          refine lv_if_ne (tgt := 37) hx hb dX12_termAt_32 (by decide) (fun c_8 => ?_) (fun c_8 => ?_)
          · skip
            exact absurd c_8 (by decide)
          · skip
            refine lv_iconst (v := (-1)) hx hb dX12_termAt_35 (by decide) ?_
            have hP9 := hP.sub (ws' := [((a 0), .inr (12, zMo a (upd zI0 0 0)))]) [1] rfl
            have hD9 := hD.sub (ws' := [((a 0), .inr (12, zMo a (upd zI0 0 0)))]) [1] (by decide) rfl
            have hK9 := hK.sub (tys' := []) [] rfl
            refine W.widen (k := 0) (n := 0) (Nat.le_of_ble_eq_true rfl) (Nat.le_of_ble_eq_true rfl) ?_
            exact W.iret (v := (-1)) hx hb hr (fun t ht0 hW => ⟨⟨(-1), upd zI0 0 0, rfl, (show zS_termAt p0 p1 0 (-1) from (.inr (.inr ⟨rfl, by omega, rfl⟩))), (zE_of hP9 hK9 hD9 ht0 hW)⟩, hS.F ht0⟩) hS.2.2 dX12_termAt_36
        · skip
          exact absurd c_6 (by decide)
      · skip
        simp only [Int32.reduceToInt] at h_4
        refine lv_iconst (v := 2) hx hb dX12_termAt_18 (by decide) ?_
        have hPc := hP.sub (ws' := [((a 0), .inr (12, zMo a (upd zI0 0 0)))]) [1] rfl
        have hDc := hD.sub (ws' := [((a 0), .inr (12, zMo a (upd zI0 0 0)))]) [1] (by decide) rfl
        have hKc := hK.sub (tys' := []) [] rfl
        have hFc := va_free (wc := [((a 0), .inr (12, zMo a (upd zI0 0 0)))]) hD hS hA [1] rfl
        refine va_calli (va_runV (As := [.int 0, .int 2]) (rest := []) ⟨hx, hb, hml, hown, ht⟩ (k_X12_no l _ D a (upd zI0 0 0) 0 2 (by decide)) (cwV 2 ht (zG_V zw_30 zw_31 zw_32 zw_2 zw_33) rfl rfl rfl (by decide +kernel) ⟨Nat.le_of_ble_eq_true rfl, Nat.le_of_ble_eq_true rfl⟩) (zM_V (va_recv hK hP (ci := 12) (q0 := 1) rfl rfl) hPc hKc hDc) rfl rfl hl.1 rfl (lv_room (Nat.le_of_ble_eq_true rfl)) dX12_termAt_19 ⟨Nat.le_of_ble_eq_true rfl, Nat.le_of_ble_eq_true rfl⟩) hS (fun q _ h => hFc q h) hFc (fun r_9 u_9 t H1 locs ht0 hvm hw_9 hB hz1 hk1 hS => ?_)
        obtain ⟨rfl, rfl⟩ := hw_9.1 rfl
        obtain ⟨hP1, hK1, hD1⟩ := hB
        rw [ht0] at hP1
        have hK1 := va_K.moved hvm.symm hK1
        obtain ⟨hP, hD⟩ := va_join (wr := [((a 1), .inl (cI, 6792, .inl zI0))]) (w1 := [((a 0), .inr (12, zMo a (upd zI0 0 2)))]) hP hD [1] [0] rfl rfl (by decide) (by decide) hk1 hFc hP1 hD1
        generalize H1 = H at hP hS ⊢
        have hP : va_P D vwCl [((a 1), .inl (cI, 6792, .inl zI0)), ((a 0), .inr (12, zMo a (upd zI0 0 2)))] H := hP
        have hD : va_D A [((a 1), .inl (cI, 6792, .inl zI0)), ((a 0), .inr (12, zMo a (upd zI0 0 2)))] := hD
        refine lv_if_eq (tgt := 27) hx hb dX12_termAt_22 (by decide) (fun c_10 => ?_) (fun c_10 => ?_)
        · skip
          exact absurd c_10 (by decide)
        · skip
          refine lv_iconst (v := 0) hx hb dX12_termAt_25 (by decide) ?_
          have hP9 := hP.sub (ws' := [((a 0), .inr (12, zMo a (upd zI0 0 2)))]) [1] rfl
          have hD9 := hD.sub (ws' := [((a 0), .inr (12, zMo a (upd zI0 0 2)))]) [1] (by decide) rfl
          have hK9 := hK.sub (tys' := []) [] rfl
          refine W.widen (k := 0) (n := 0) (Nat.le_of_ble_eq_true rfl) (Nat.le_of_ble_eq_true rfl) ?_
          exact W.iret (v := 0) hx hb hr (fun t ht0 hW => ⟨⟨0, upd zI0 0 2, rfl, (show zS_termAt p0 p1 2 0 from (.inr (.inl ⟨rfl, by omega⟩))), (zE_of hP9 hK9 hD9 ht0 hW)⟩, hS.F ht0⟩) hS.2.2 dX12_termAt_26
  · skip
    have hPc := hP.sub (ws' := [((a 0), .inr (12, zMo a zI0))]) [0] rfl
    have hDc := hD.sub (ws' := [((a 0), .inr (12, zMo a zI0))]) [0] (by decide) rfl
    have hKc := hK.sub (tys' := []) [] rfl
    have hFc := va_free (wc := [((a 0), .inr (12, zMo a zI0))]) hD hS hA [0] rfl
    refine va_calli (va_runV (As := [.int 0]) (rest := []) ⟨hx, hb, hml, hown, ht⟩ (k_X12_lacks l _ D a zI0 0 (by decide)) (cwV 1 ht (zG_V zw_62 zw_63 zw_64 zw_2 zw_65) rfl rfl rfl (by decide +kernel) ⟨Nat.le_of_ble_eq_true rfl, Nat.le_of_ble_eq_true rfl⟩) (zM_V (va_recv hK hP (ci := 12) (q0 := 0) rfl rfl) hPc hKc hDc) rfl rfl hl.1 rfl (lv_room (Nat.le_of_ble_eq_true rfl)) dX12_termAt_5 ⟨Nat.le_of_ble_eq_true rfl, Nat.le_of_ble_eq_true rfl⟩) hS (fun q _ h => hFc q h) hFc (fun r_11 u_11 t H1 locs ht0 hvm hw_11 hB hz1 hk1 hS => ?_)
    obtain ⟨rfl, rfl⟩ := hw_11.1 rfl
    obtain ⟨hP1, hK1, hD1⟩ := hB
    rw [ht0] at hP1
    have hK1 := va_K.moved hvm.symm hK1
    obtain ⟨hP, hD⟩ := va_join (wr := [((a 1), .inl (cI, 6792, .inl zI0))]) (w1 := [((a 0), .inr (12, zMo a (upd zI0 0 1)))]) hP hD [0] [1] rfl rfl (by decide) (by decide) hk1 hFc hP1 hD1
    generalize H1 = H at hP hS ⊢
    have hP : va_P D vwCl [((a 1), .inl (cI, 6792, .inl zI0)), ((a 0), .inr (12, zMo a (upd zI0 0 1)))] H := hP
    have hD : va_D A [((a 1), .inl (cI, 6792, .inl zI0)), ((a 0), .inr (12, zMo a (upd zI0 0 1)))] := hD
    refine lv_if_ne (tgt := 25) hx hb dX12_termAt_8 (by decide) (fun c_12 => ?_) (fun c_12 => ?_)
    · skip
      refine lv_iconst (v := 0) hx hb dX12_termAt_25 (by decide) ?_
      have hP9 := hP.sub (ws' := [((a 0), .inr (12, zMo a (upd zI0 0 1)))]) [1] rfl
      have hD9 := hD.sub (ws' := [((a 0), .inr (12, zMo a (upd zI0 0 1)))]) [1] (by decide) rfl
      have hK9 := hK.sub (tys' := []) [] rfl
      refine W.widen (k := 0) (n := 0) (Nat.le_of_ble_eq_true rfl) (Nat.le_of_ble_eq_true rfl) ?_
      exact W.iret (v := 0) hx hb hr (fun t ht0 hW => ⟨⟨0, upd zI0 0 1, rfl, (show zS_termAt p0 p1 1 0 from (.inl ⟨rfl, by omega⟩)), (zE_of hP9 hK9 hD9 ht0 hW)⟩, hS.F ht0⟩) hS.2.2 dX12_termAt_26
    · skip
      exact absurd c_12 (by decide)
set_option maxHeartbeats 4000000 in
set_option maxRecDepth 100000 in
theorem k_X12_areSame (l : Launch) (sz : Nat) (D : va_G) (a : Nat → Nat) (cI : ClassId) (p0 p1 : Int32) : Met l yX12_areSame (.code yX12_areSame cX12_areSame 3 (some .boolean) :: zT) ({ frames := 2, cells := 0, slots := 0, locals := 43 }) (va_Pc [.ref (a 0), .int p0, .int p1] (zM D [((a 0), .inr (12, zMo a zI0)), ((a 1), .inl (cI, 6792, .inl zI0))] [(cI, .int)] sz)) (va_Qi (fun (r : Int32) (u : Nat → Int32) => zS_areSame p0 p1 (u 0) r) (fun u t => zE D [(a 0, .inr (12, zMo a u))] [] (va_A [((a 0), .inr (12, zMo a zI0)), ((a 1), .inl (cI, 6792, .inl zI0))] sz) t) (va_A [((a 0), .inr (12, zMo a zI0)), ((a 1), .inl (cI, 6792, .inl zI0))] sz)) 0 0 (va_A [((a 0), .inr (12, zMo a zI0)), ((a 1), .inl (cI, 6792, .inl zI0))] sz) := by
  refine Met.ofW (cc := cX12_areSame) (maxL := 3) (ret := (some .boolean)) (by decide) rfl ?_
  intro p e s m args below meth c s₁ B hml hv
  obtain ⟨rfl, hsz, hP, hK, hD0⟩ := hv
  have hx := B.exec
  have hb := B.bytes
  have hr := B.returns
  have hts := atoms_spec (ws := (.code yX12_areSame cX12_areSame 3 (some .boolean) :: zT)) B.pre
  have ht : ∀ w ∈ zT, w.before _ s = true := fun w h => hts w (List.mem_cons_of_mem _ h)
  have hown : s.vm.findClass RX12 = some m.cls := findClass_of_methodNamed B.named
  have hlocks := B.notSynchronized
  subst hsz
  have hD := hD0.self (sz := s.heap.size)
  generalize hAe : va_A [((a 0), .inr (12, zMo a zI0)), ((a 1), .inl (cI, 6792, .inl zI0))] s.heap.size = A at hD ⊢
  have hA : ∀ q : Nat, s.heap.size ≤ q → A q := fun q h => by rw [← hAe]; exact Or.inr h
  have hS : va_S A s.heap s.heap [] := va_S.rf
  have hP : va_P D vwCl [((a 0), .inr (12, zMo a zI0)), ((a 1), .inl (cI, 6792, .inl zI0))] s.heap := hP
  have hl := lv_entry ([.ref (a 0), .int p0, .int p1]) (n := 3) (Nat.le_of_ble_eq_true rfl)
  rw [lg_entry_eq]
  generalize (lg_sl ([.ref (a 0), .int p0, .int p1]) ++ List.replicate (3 - (lg_sl ([.ref (a 0), .int p0, .int p1])).length) Slot.unset).toArray = ls at hl ⊢
  have hl : lv_has ls 3 [(0, .ref (a 0)), (1, .int p0), (2, .int p1)] := hl
  skip
  refine lv_aload_n hx hb dX12_areSame_0 rfl (lv_at hl 0 rfl) ?_
  refine lv_iload_n hx hb dX12_areSame_1 rfl (lv_at hl 1 rfl) ?_
  refine vp_callSi (va_runS (As := [.int p0]) (rest := [.ref (a 0)]) ⟨hx, hb, hml, hown, ht⟩ (k_X12_isRegister l p0) (va_cwS 1 ht (zG_S zw_59 zw_60 zw_2 zw_61) rfl rfl rfl (by decide +kernel) ⟨Nat.le_of_ble_eq_true rfl, Nat.le_of_ble_eq_true rfl⟩) zN_S rfl rfl hl.1 rfl (lv_room (Nat.le_of_ble_eq_true rfl)) dX12_areSame_2 ⟨Nat.le_of_ble_eq_true rfl, Nat.le_of_ble_eq_true rfl⟩).run (fun r_1 hw_1 => ?_)
  rcases hw_1 with ⟨rfl, h_1⟩ | ⟨rfl, h_1⟩
  · skip
    refine lv_if_eq (tgt := 19) hx hb dX12_areSame_5 (by decide) (fun c_2 => ?_) (fun c_2 => ?_)
    · skip
      exact absurd c_2 (by decide)
    · skip
      refine lv_iload_n hx hb dX12_areSame_8 rfl (lv_at hl 2 rfl) ?_
      refine vp_callSi (va_runS (As := [.int p1]) (rest := [.ref (a 0)]) ⟨hx, hb, hml, hown, ht⟩ (k_X12_isRegister l p1) (va_cwS 1 ht (zG_S zw_59 zw_60 zw_2 zw_61) rfl rfl rfl (by decide +kernel) ⟨Nat.le_of_ble_eq_true rfl, Nat.le_of_ble_eq_true rfl⟩) zN_S rfl rfl hl.1 rfl (lv_room (Nat.le_of_ble_eq_true rfl)) dX12_areSame_9 ⟨Nat.le_of_ble_eq_true rfl, Nat.le_of_ble_eq_true rfl⟩).run (fun r_3 hw_3 => ?_)
      rcases hw_3 with ⟨rfl, h_3⟩ | ⟨rfl, h_3⟩
      · skip
        refine lv_if_eq (tgt := 19) hx hb dX12_areSame_12 (by decide) (fun c_4 => ?_) (fun c_4 => ?_)
        · skip
          exact absurd c_4 (by decide)
        · skip
          refine lv_iconst (v := 1) hx hb dX12_areSame_15 (by decide) ?_
          refine lv_goto (tgt := 20) hx hb dX12_areSame_16 (by decide) ?_
          have hPc := hP.sub (ws' := [((a 0), .inr (12, zMo a zI0))]) [0] rfl
          have hDc := hD.sub (ws' := [((a 0), .inr (12, zMo a zI0))]) [0] (by decide) rfl
          have hKc := hK.sub (tys' := []) [] rfl
          have hFc := va_free (wc := [((a 0), .inr (12, zMo a zI0))]) hD hS hA [0] rfl
          refine va_calli (va_runV (As := [.int 1]) (rest := []) ⟨hx, hb, hml, hown, ht⟩ (k_X12_lacks l _ D a zI0 1 (by decide)) (cwV 1 ht (zG_V zw_62 zw_63 zw_64 zw_2 zw_65) rfl rfl rfl (by decide +kernel) ⟨Nat.le_of_ble_eq_true rfl, Nat.le_of_ble_eq_true rfl⟩) (zM_V (va_recv hK hP (ci := 12) (q0 := 0) rfl rfl) hPc hKc hDc) rfl rfl hl.1 rfl (lv_room (Nat.le_of_ble_eq_true rfl)) dX12_areSame_20 ⟨Nat.le_of_ble_eq_true rfl, Nat.le_of_ble_eq_true rfl⟩) hS (fun q _ h => hFc q h) hFc (fun r_5 u_5 t H1 locs ht0 hvm hw_5 hB hz1 hk1 hS => ?_)
          obtain ⟨rfl, rfl⟩ := hw_5.2 (by decide)
          obtain ⟨hP1, hK1, hD1⟩ := hB
          rw [ht0] at hP1
          have hK1 := va_K.moved hvm.symm hK1
          obtain ⟨hP, hD⟩ := va_join (wr := [((a 1), .inl (cI, 6792, .inl zI0))]) (w1 := [((a 0), .inr (12, zMo a (upd zI0 0 0)))]) hP hD [0] [1] rfl rfl (by decide) (by decide) hk1 hFc hP1 hD1
          generalize H1 = H at hP hS ⊢
          have hP : va_P D vwCl [((a 1), .inl (cI, 6792, .inl zI0)), ((a 0), .inr (12, zMo a (upd zI0 0 0)))] H := hP
          have hD : va_D A [((a 1), .inl (cI, 6792, .inl zI0)), ((a 0), .inr (12, zMo a (upd zI0 0 0)))] := hD
          refine lv_if_ne (tgt := 55) hx hb dX12_areSame_23 (by decide) (fun c_6 => ?_) (fun c_6 => ?_)
          · skip
            exact absurd c_6 (by decide)
          · skip
            refine lv_aload_n hx hb dX12_areSame_26 rfl (lv_at hl 0 rfl) ?_
            refine lv_iload_n hx hb dX12_areSame_27 rfl (lv_at hl 1 rfl) ?_
            refine vp_callSi (va_runV (As := [.int p0]) (rest := []) ⟨hx, hb, hml, hown, ht⟩ (k_X12_isFull l D a (upd zI0 0 0) cI p0 h_1) (cwV 1 ht (zG_V zw_69 zw_70 zw_71 zw_2 zw_72) rfl rfl rfl (by decide +kernel) ⟨Nat.le_of_ble_eq_true rfl, Nat.le_of_ble_eq_true rfl⟩) (zR_V (va_recv hK hP (ci := 12) (q0 := 1) rfl rfl) (hP.sub (ws' := [((a 0), .inr (12, zMo a (upd zI0 0 0))), ((a 1), .inl (cI, 6792, .inl zI0))]) [1, 0] rfl) hK) rfl rfl hl.1 rfl (lv_room (Nat.le_of_ble_eq_true rfl)) dX12_areSame_28 ⟨Nat.le_of_ble_eq_true rfl, Nat.le_of_ble_eq_true rfl⟩).run (fun r_7 hw_7 => ?_)
            obtain rfl : r_7 = 0 := hw_7
            refine lv_if_eq (tgt := 55) hx hb dX12_areSame_31 (by decide) (fun c_8 => ?_) (fun c_8 => ?_)
            · skip
              refine lv_iconst (v := 0) hx hb dX12_areSame_55 (by decide) ?_
              have hP9 := hP.sub (ws' := [((a 0), .inr (12, zMo a (upd zI0 0 0)))]) [1] rfl
              have hD9 := hD.sub (ws' := [((a 0), .inr (12, zMo a (upd zI0 0 0)))]) [1] (by decide) rfl
              have hK9 := hK.sub (tys' := []) [] rfl
              refine W.widen (k := 0) (n := 0) (Nat.le_of_ble_eq_true rfl) (Nat.le_of_ble_eq_true rfl) ?_
              exact W.zret (v := 0) hx hb hr rfl (fun t ht0 hW => ⟨⟨0, upd zI0 0 0, rfl, (show zS_areSame p0 p1 0 0 from (.inr ⟨rfl, by omega, rfl⟩)), (zE_of hP9 hK9 hD9 ht0 hW)⟩, hS.F ht0⟩) hS.2.2 dX12_areSame_56
            · skip
              exact absurd c_8 (by decide)
      · skip
        refine lv_if_eq (tgt := 19) hx hb dX12_areSame_12 (by decide) (fun c_9 => ?_) (fun c_9 => ?_)
        · skip
          refine lv_iconst (v := 0) hx hb dX12_areSame_19 (by decide) ?_
          have hPc := hP.sub (ws' := [((a 0), .inr (12, zMo a zI0))]) [0] rfl
          have hDc := hD.sub (ws' := [((a 0), .inr (12, zMo a zI0))]) [0] (by decide) rfl
          have hKc := hK.sub (tys' := []) [] rfl
          have hFc := va_free (wc := [((a 0), .inr (12, zMo a zI0))]) hD hS hA [0] rfl
          refine va_calli (va_runV (As := [.int 0]) (rest := []) ⟨hx, hb, hml, hown, ht⟩ (k_X12_lacks l _ D a zI0 0 (by decide)) (cwV 1 ht (zG_V zw_62 zw_63 zw_64 zw_2 zw_65) rfl rfl rfl (by decide +kernel) ⟨Nat.le_of_ble_eq_true rfl, Nat.le_of_ble_eq_true rfl⟩) (zM_V (va_recv hK hP (ci := 12) (q0 := 0) rfl rfl) hPc hKc hDc) rfl rfl hl.1 rfl (lv_room (Nat.le_of_ble_eq_true rfl)) dX12_areSame_20 ⟨Nat.le_of_ble_eq_true rfl, Nat.le_of_ble_eq_true rfl⟩) hS (fun q _ h => hFc q h) hFc (fun r_10 u_10 t H1 locs ht0 hvm hw_10 hB hz1 hk1 hS => ?_)
          obtain ⟨rfl, rfl⟩ := hw_10.1 rfl
          obtain ⟨hP1, hK1, hD1⟩ := hB
          rw [ht0] at hP1
          have hK1 := va_K.moved hvm.symm hK1
          obtain ⟨hP, hD⟩ := va_join (wr := [((a 1), .inl (cI, 6792, .inl zI0))]) (w1 := [((a 0), .inr (12, zMo a (upd zI0 0 1)))]) hP hD [0] [1] rfl rfl (by decide) (by decide) hk1 hFc hP1 hD1
          generalize H1 = H at hP hS ⊢
          have hP : va_P D vwCl [((a 1), .inl (cI, 6792, .inl zI0)), ((a 0), .inr (12, zMo a (upd zI0 0 1)))] H := hP
          have hD : va_D A [((a 1), .inl (cI, 6792, .inl zI0)), ((a 0), .inr (12, zMo a (upd zI0 0 1)))] := hD
          refine lv_if_ne (tgt := 55) hx hb dX12_areSame_23 (by decide) (fun c_11 => ?_) (fun c_11 => ?_)
          · skip
            refine lv_iconst (v := 0) hx hb dX12_areSame_55 (by decide) ?_
            have hP9 := hP.sub (ws' := [((a 0), .inr (12, zMo a (upd zI0 0 1)))]) [1] rfl
            have hD9 := hD.sub (ws' := [((a 0), .inr (12, zMo a (upd zI0 0 1)))]) [1] (by decide) rfl
            have hK9 := hK.sub (tys' := []) [] rfl
            refine W.widen (k := 0) (n := 0) (Nat.le_of_ble_eq_true rfl) (Nat.le_of_ble_eq_true rfl) ?_
            exact W.zret (v := 0) hx hb hr rfl (fun t ht0 hW => ⟨⟨0, upd zI0 0 1, rfl, (show zS_areSame p0 p1 1 0 from (.inl ⟨rfl, by omega⟩)), (zE_of hP9 hK9 hD9 ht0 hW)⟩, hS.F ht0⟩) hS.2.2 dX12_areSame_56
          · skip
            exact absurd c_11 (by decide)
        · skip
          exact absurd c_9 (by decide)
  · skip
    refine lv_if_eq (tgt := 19) hx hb dX12_areSame_5 (by decide) (fun c_12 => ?_) (fun c_12 => ?_)
    · skip
      refine lv_iconst (v := 0) hx hb dX12_areSame_19 (by decide) ?_
      have hPc := hP.sub (ws' := [((a 0), .inr (12, zMo a zI0))]) [0] rfl
      have hDc := hD.sub (ws' := [((a 0), .inr (12, zMo a zI0))]) [0] (by decide) rfl
      have hKc := hK.sub (tys' := []) [] rfl
      have hFc := va_free (wc := [((a 0), .inr (12, zMo a zI0))]) hD hS hA [0] rfl
      refine va_calli (va_runV (As := [.int 0]) (rest := []) ⟨hx, hb, hml, hown, ht⟩ (k_X12_lacks l _ D a zI0 0 (by decide)) (cwV 1 ht (zG_V zw_62 zw_63 zw_64 zw_2 zw_65) rfl rfl rfl (by decide +kernel) ⟨Nat.le_of_ble_eq_true rfl, Nat.le_of_ble_eq_true rfl⟩) (zM_V (va_recv hK hP (ci := 12) (q0 := 0) rfl rfl) hPc hKc hDc) rfl rfl hl.1 rfl (lv_room (Nat.le_of_ble_eq_true rfl)) dX12_areSame_20 ⟨Nat.le_of_ble_eq_true rfl, Nat.le_of_ble_eq_true rfl⟩) hS (fun q _ h => hFc q h) hFc (fun r_13 u_13 t H1 locs ht0 hvm hw_13 hB hz1 hk1 hS => ?_)
      obtain ⟨rfl, rfl⟩ := hw_13.1 rfl
      obtain ⟨hP1, hK1, hD1⟩ := hB
      rw [ht0] at hP1
      have hK1 := va_K.moved hvm.symm hK1
      obtain ⟨hP, hD⟩ := va_join (wr := [((a 1), .inl (cI, 6792, .inl zI0))]) (w1 := [((a 0), .inr (12, zMo a (upd zI0 0 1)))]) hP hD [0] [1] rfl rfl (by decide) (by decide) hk1 hFc hP1 hD1
      generalize H1 = H at hP hS ⊢
      have hP : va_P D vwCl [((a 1), .inl (cI, 6792, .inl zI0)), ((a 0), .inr (12, zMo a (upd zI0 0 1)))] H := hP
      have hD : va_D A [((a 1), .inl (cI, 6792, .inl zI0)), ((a 0), .inr (12, zMo a (upd zI0 0 1)))] := hD
      refine lv_if_ne (tgt := 55) hx hb dX12_areSame_23 (by decide) (fun c_14 => ?_) (fun c_14 => ?_)
      · skip
        refine lv_iconst (v := 0) hx hb dX12_areSame_55 (by decide) ?_
        have hP9 := hP.sub (ws' := [((a 0), .inr (12, zMo a (upd zI0 0 1)))]) [1] rfl
        have hD9 := hD.sub (ws' := [((a 0), .inr (12, zMo a (upd zI0 0 1)))]) [1] (by decide) rfl
        have hK9 := hK.sub (tys' := []) [] rfl
        refine W.widen (k := 0) (n := 0) (Nat.le_of_ble_eq_true rfl) (Nat.le_of_ble_eq_true rfl) ?_
        exact W.zret (v := 0) hx hb hr rfl (fun t ht0 hW => ⟨⟨0, upd zI0 0 1, rfl, (show zS_areSame p0 p1 1 0 from (.inl ⟨rfl, by omega⟩)), (zE_of hP9 hK9 hD9 ht0 hW)⟩, hS.F ht0⟩) hS.2.2 dX12_areSame_56
      · skip
        exact absurd c_14 (by decide)
    · skip
      exact absurd c_12 (by decide)
set_option maxHeartbeats 4000000 in
set_option maxRecDepth 100000 in
theorem k_X12_direction (l : Launch) (sz : Nat) (D : va_G) (a : Nat → Nat) (cI : ClassId) (p0 p1 : Int32) : Met l yX12_direction (.code yX12_direction cX12_direction 3 (some .int) :: zT) ({ frames := 2, cells := 0, slots := 0, locals := 43 }) (va_Pc [.ref (a 0), .int p0, .int p1] (zM D [((a 0), .inr (12, zMo a zI0)), ((a 1), .inl (cI, 6792, .inl zI0))] [(cI, .int)] sz)) (va_Qi (fun (r : Int32) (u : Nat → Int32) => zS_direction p0 p1 (u 0) r) (fun u t => zE D [(a 0, .inr (12, zMo a u))] [] (va_A [((a 0), .inr (12, zMo a zI0)), ((a 1), .inl (cI, 6792, .inl zI0))] sz) t) (va_A [((a 0), .inr (12, zMo a zI0)), ((a 1), .inl (cI, 6792, .inl zI0))] sz)) 0 0 (va_A [((a 0), .inr (12, zMo a zI0)), ((a 1), .inl (cI, 6792, .inl zI0))] sz) := by
  refine Met.ofW (cc := cX12_direction) (maxL := 3) (ret := (some .int)) (by decide) rfl ?_
  intro p e s m args below meth c s₁ B hml hv
  obtain ⟨rfl, hsz, hP, hK, hD0⟩ := hv
  have hx := B.exec
  have hb := B.bytes
  have hr := B.returns
  have hts := atoms_spec (ws := (.code yX12_direction cX12_direction 3 (some .int) :: zT)) B.pre
  have ht : ∀ w ∈ zT, w.before _ s = true := fun w h => hts w (List.mem_cons_of_mem _ h)
  have hown : s.vm.findClass RX12 = some m.cls := findClass_of_methodNamed B.named
  have hlocks := B.notSynchronized
  subst hsz
  have hD := hD0.self (sz := s.heap.size)
  generalize hAe : va_A [((a 0), .inr (12, zMo a zI0)), ((a 1), .inl (cI, 6792, .inl zI0))] s.heap.size = A at hD ⊢
  have hA : ∀ q : Nat, s.heap.size ≤ q → A q := fun q h => by rw [← hAe]; exact Or.inr h
  have hS : va_S A s.heap s.heap [] := va_S.rf
  have hP : va_P D vwCl [((a 0), .inr (12, zMo a zI0)), ((a 1), .inl (cI, 6792, .inl zI0))] s.heap := hP
  have hl := lv_entry ([.ref (a 0), .int p0, .int p1]) (n := 3) (Nat.le_of_ble_eq_true rfl)
  rw [lg_entry_eq]
  generalize (lg_sl ([.ref (a 0), .int p0, .int p1]) ++ List.replicate (3 - (lg_sl ([.ref (a 0), .int p0, .int p1])).length) Slot.unset).toArray = ls at hl ⊢
  have hl : lv_has ls 3 [(0, .ref (a 0)), (1, .int p0), (2, .int p1)] := hl
  skip
  refine lv_aload_n hx hb dX12_direction_0 rfl (lv_at hl 0 rfl) ?_
  refine lv_iload_n hx hb dX12_direction_1 rfl (lv_at hl 1 rfl) ?_
  refine vp_callSi (va_runS (As := [.int p0]) (rest := [.ref (a 0)]) ⟨hx, hb, hml, hown, ht⟩ (k_X12_isRegister l p0) (va_cwS 1 ht (zG_S zw_59 zw_60 zw_2 zw_61) rfl rfl rfl (by decide +kernel) ⟨Nat.le_of_ble_eq_true rfl, Nat.le_of_ble_eq_true rfl⟩) zN_S rfl rfl hl.1 rfl (lv_room (Nat.le_of_ble_eq_true rfl)) dX12_direction_2 ⟨Nat.le_of_ble_eq_true rfl, Nat.le_of_ble_eq_true rfl⟩).run (fun r_1 hw_1 => ?_)
  rcases hw_1 with ⟨rfl, h_1⟩ | ⟨rfl, h_1⟩
  · skip
    have hPc := hP.sub (ws' := [((a 0), .inr (12, zMo a zI0))]) [0] rfl
    have hDc := hD.sub (ws' := [((a 0), .inr (12, zMo a zI0))]) [0] (by decide) rfl
    have hKc := hK.sub (tys' := []) [] rfl
    have hFc := va_free (wc := [((a 0), .inr (12, zMo a zI0))]) hD hS hA [0] rfl
    refine va_calli (va_runV (As := [.int 1]) (rest := []) ⟨hx, hb, hml, hown, ht⟩ (k_X12_lacks l _ D a zI0 1 (by decide)) (cwV 1 ht (zG_V zw_62 zw_63 zw_64 zw_2 zw_65) rfl rfl rfl (by decide +kernel) ⟨Nat.le_of_ble_eq_true rfl, Nat.le_of_ble_eq_true rfl⟩) (zM_V (va_recv hK hP (ci := 12) (q0 := 0) rfl rfl) hPc hKc hDc) rfl rfl hl.1 rfl (lv_room (Nat.le_of_ble_eq_true rfl)) dX12_direction_5 ⟨Nat.le_of_ble_eq_true rfl, Nat.le_of_ble_eq_true rfl⟩) hS (fun q _ h => hFc q h) hFc (fun r_2 u_2 t H1 locs ht0 hvm hw_2 hB hz1 hk1 hS => ?_)
    obtain ⟨rfl, rfl⟩ := hw_2.2 (by decide)
    obtain ⟨hP1, hK1, hD1⟩ := hB
    rw [ht0] at hP1
    have hK1 := va_K.moved hvm.symm hK1
    obtain ⟨hP, hD⟩ := va_join (wr := [((a 1), .inl (cI, 6792, .inl zI0))]) (w1 := [((a 0), .inr (12, zMo a (upd zI0 0 0)))]) hP hD [0] [1] rfl rfl (by decide) (by decide) hk1 hFc hP1 hD1
    generalize H1 = H at hP hS ⊢
    have hP : va_P D vwCl [((a 1), .inl (cI, 6792, .inl zI0)), ((a 0), .inr (12, zMo a (upd zI0 0 0)))] H := hP
    have hD : va_D A [((a 1), .inl (cI, 6792, .inl zI0)), ((a 0), .inr (12, zMo a (upd zI0 0 0)))] := hD
    refine lv_if_ne (tgt := 65) hx hb dX12_direction_8 (by decide) (fun c_3 => ?_) (fun c_3 => ?_)
    · skip
      exact absurd c_3 (by decide)
    · skip
      refine lv_aload_n hx hb dX12_direction_11 rfl (lv_at hl 0 rfl) ?_
      refine lv_aload_n hx hb dX12_direction_12 rfl (lv_at hl 0 rfl) ?_
      refine lv_iload_n hx hb dX12_direction_13 rfl (lv_at hl 1 rfl) ?_
      refine vp_callSi (va_runV (As := [.int p0]) (rest := [.ref (a 0)]) ⟨hx, hb, hml, hown, ht⟩ (k_X12_isFull l D a (upd zI0 0 0) cI p0 h_1) (cwV 1 ht (zG_V zw_69 zw_70 zw_71 zw_2 zw_72) rfl rfl rfl (by decide +kernel) ⟨Nat.le_of_ble_eq_true rfl, Nat.le_of_ble_eq_true rfl⟩) (zR_V (va_recv hK hP (ci := 12) (q0 := 1) rfl rfl) (hP.sub (ws' := [((a 0), .inr (12, zMo a (upd zI0 0 0))), ((a 1), .inl (cI, 6792, .inl zI0))]) [1, 0] rfl) hK) rfl rfl hl.1 rfl (lv_room (Nat.le_of_ble_eq_true rfl)) dX12_direction_14 ⟨Nat.le_of_ble_eq_true rfl, Nat.le_of_ble_eq_true rfl⟩).run (fun r_4 hw_4 => ?_)
      obtain rfl : r_4 = 0 := hw_4
      refine lv_if_eq (tgt := 40) hx hb dX12_direction_17 (by decide) (fun c_5 => ?_) (fun c_5 => ?_)
      · skip
        refine lv_iconst (v := 1) hx hb dX12_direction_40 (by decide) ?_
        refine lv_goto (tgt := 45) hx hb dX12_direction_41 (by decide) ?_
        refine lv_iconst (v := 1) hx hb dX12_direction_45 (by decide) ?_
        have hPc := hP.sub (ws' := [((a 0), .inr (12, zMo a (upd zI0 0 0)))]) [1] rfl
        have hDc := hD.sub (ws' := [((a 0), .inr (12, zMo a (upd zI0 0 0)))]) [1] (by decide) rfl
        have hKc := hK.sub (tys' := []) [] rfl
        have hFc := va_free (wc := [((a 0), .inr (12, zMo a (upd zI0 0 0)))]) hD hS hA [1] rfl
        refine va_calli (va_runV (As := [.int 1, .int 1]) (rest := []) ⟨hx, hb, hml, hown, ht⟩ (k_X12_no l _ D a (upd zI0 0 0) 1 1 (by decide)) (cwV 2 ht (zG_V zw_30 zw_31 zw_32 zw_2 zw_33) rfl rfl rfl (by decide +kernel) ⟨Nat.le_of_ble_eq_true rfl, Nat.le_of_ble_eq_true rfl⟩) (zM_V (va_recv hK hP (ci := 12) (q0 := 1) rfl rfl) hPc hKc hDc) rfl rfl hl.1 rfl (lv_room (Nat.le_of_ble_eq_true rfl)) dX12_direction_46 ⟨Nat.le_of_ble_eq_true rfl, Nat.le_of_ble_eq_true rfl⟩) hS (fun q _ h => hFc q h) hFc (fun r_6 u_6 t H1 locs ht0 hvm hw_6 hB hz1 hk1 hS => ?_)
        obtain ⟨rfl, rfl⟩ := hw_6.2 (by decide)
        obtain ⟨hP1, hK1, hD1⟩ := hB
        rw [ht0] at hP1
        have hK1 := va_K.moved hvm.symm hK1
        obtain ⟨hP, hD⟩ := va_join (wr := [((a 1), .inl (cI, 6792, .inl zI0))]) (w1 := [((a 0), .inr (12, zMo a (upd zI0 0 0)))]) hP hD [1] [0] rfl rfl (by decide) (by decide) hk1 hFc hP1 hD1
        generalize H1 = H at hP hS ⊢
        have hP : va_P D vwCl [((a 1), .inl (cI, 6792, .inl zI0)), ((a 0), .inr (12, zMo a (upd zI0 0 0)))] H := hP
        have hD : va_D A [((a 1), .inl (cI, 6792, .inl zI0)), ((a 0), .inr (12, zMo a (upd zI0 0 0)))] := hD
        refine lv_if_ne (tgt := 65) hx hb dX12_direction_49 (by decide) (fun c_7 => ?_) (fun c_7 => ?_)
        · skip
          exact absurd c_7 (by decide)
        · skip
          refine lv_aload_n hx hb dX12_direction_52 rfl (lv_at hl 0 rfl) ?_
          refine lv_aload_n hx hb dX12_direction_53 rfl (lv_at hl 0 rfl) ?_
          refine lv_iload_n hx hb dX12_direction_54 rfl (lv_at hl 1 rfl) ?_
          refine vp_callSi (va_runV (As := [.int p0]) (rest := [.ref (a 0)]) ⟨hx, hb, hml, hown, ht⟩ (k_X12_isFull l D a (upd zI0 0 0) cI p0 h_1) (cwV 1 ht (zG_V zw_69 zw_70 zw_71 zw_2 zw_72) rfl rfl rfl (by decide +kernel) ⟨Nat.le_of_ble_eq_true rfl, Nat.le_of_ble_eq_true rfl⟩) (zR_V (va_recv hK hP (ci := 12) (q0 := 1) rfl rfl) (hP.sub (ws' := [((a 0), .inr (12, zMo a (upd zI0 0 0))), ((a 1), .inl (cI, 6792, .inl zI0))]) [1, 0] rfl) hK) rfl rfl hl.1 rfl (lv_room (Nat.le_of_ble_eq_true rfl)) dX12_direction_55 ⟨Nat.le_of_ble_eq_true rfl, Nat.le_of_ble_eq_true rfl⟩).run (fun r_8 hw_8 => ?_)
          obtain rfl : r_8 = 0 := hw_8
          refine lv_iconst (v := 2) hx hb dX12_direction_58 (by decide) ?_
          have hPc := hP.sub (ws' := [((a 0), .inr (12, zMo a (upd zI0 0 0)))]) [1] rfl
          have hDc := hD.sub (ws' := [((a 0), .inr (12, zMo a (upd zI0 0 0)))]) [1] (by decide) rfl
          have hKc := hK.sub (tys' := []) [] rfl
          have hFc := va_free (wc := [((a 0), .inr (12, zMo a (upd zI0 0 0)))]) hD hS hA [1] rfl
          refine va_calli (va_runV (As := [.int 0, .int 2]) (rest := []) ⟨hx, hb, hml, hown, ht⟩ (k_X12_no l _ D a (upd zI0 0 0) 0 2 (by decide)) (cwV 2 ht (zG_V zw_30 zw_31 zw_32 zw_2 zw_33) rfl rfl rfl (by decide +kernel) ⟨Nat.le_of_ble_eq_true rfl, Nat.le_of_ble_eq_true rfl⟩) (zM_V (va_recv hK hP (ci := 12) (q0 := 1) rfl rfl) hPc hKc hDc) rfl rfl hl.1 rfl (lv_room (Nat.le_of_ble_eq_true rfl)) dX12_direction_59 ⟨Nat.le_of_ble_eq_true rfl, Nat.le_of_ble_eq_true rfl⟩) hS (fun q _ h => hFc q h) hFc (fun r_9 u_9 t H1 locs ht0 hvm hw_9 hB hz1 hk1 hS => ?_)
          obtain ⟨rfl, rfl⟩ := hw_9.1 rfl
          obtain ⟨hP1, hK1, hD1⟩ := hB
          rw [ht0] at hP1
          have hK1 := va_K.moved hvm.symm hK1
          obtain ⟨hP, hD⟩ := va_join (wr := [((a 1), .inl (cI, 6792, .inl zI0))]) (w1 := [((a 0), .inr (12, zMo a (upd zI0 0 2)))]) hP hD [1] [0] rfl rfl (by decide) (by decide) hk1 hFc hP1 hD1
          generalize H1 = H at hP hS ⊢
          have hP : va_P D vwCl [((a 1), .inl (cI, 6792, .inl zI0)), ((a 0), .inr (12, zMo a (upd zI0 0 2)))] H := hP
          have hD : va_D A [((a 1), .inl (cI, 6792, .inl zI0)), ((a 0), .inr (12, zMo a (upd zI0 0 2)))] := hD
          refine lv_if_eq (tgt := 67) hx hb dX12_direction_62 (by decide) (fun c_10 => ?_) (fun c_10 => ?_)
          · skip
            exact absurd c_10 (by decide)
          · skip
            refine lv_iconst (v := 0) hx hb dX12_direction_65 (by decide) ?_
            have hP9 := hP.sub (ws' := [((a 0), .inr (12, zMo a (upd zI0 0 2)))]) [1] rfl
            have hD9 := hD.sub (ws' := [((a 0), .inr (12, zMo a (upd zI0 0 2)))]) [1] (by decide) rfl
            have hK9 := hK.sub (tys' := []) [] rfl
            refine W.widen (k := 0) (n := 0) (Nat.le_of_ble_eq_true rfl) (Nat.le_of_ble_eq_true rfl) ?_
            exact W.iret (v := 0) hx hb hr (fun t ht0 hW => ⟨⟨0, upd zI0 0 2, rfl, (show zS_direction p0 p1 2 0 from (.inr ⟨rfl, by omega⟩)), (zE_of hP9 hK9 hD9 ht0 hW)⟩, hS.F ht0⟩) hS.2.2 dX12_direction_66
      · skip
        exact absurd c_5 (by decide)
  · skip
    have hPc := hP.sub (ws' := [((a 0), .inr (12, zMo a zI0))]) [0] rfl
    have hDc := hD.sub (ws' := [((a 0), .inr (12, zMo a zI0))]) [0] (by decide) rfl
    have hKc := hK.sub (tys' := []) [] rfl
    have hFc := va_free (wc := [((a 0), .inr (12, zMo a zI0))]) hD hS hA [0] rfl
    refine va_calli (va_runV (As := [.int 0]) (rest := []) ⟨hx, hb, hml, hown, ht⟩ (k_X12_lacks l _ D a zI0 0 (by decide)) (cwV 1 ht (zG_V zw_62 zw_63 zw_64 zw_2 zw_65) rfl rfl rfl (by decide +kernel) ⟨Nat.le_of_ble_eq_true rfl, Nat.le_of_ble_eq_true rfl⟩) (zM_V (va_recv hK hP (ci := 12) (q0 := 0) rfl rfl) hPc hKc hDc) rfl rfl hl.1 rfl (lv_room (Nat.le_of_ble_eq_true rfl)) dX12_direction_5 ⟨Nat.le_of_ble_eq_true rfl, Nat.le_of_ble_eq_true rfl⟩) hS (fun q _ h => hFc q h) hFc (fun r_11 u_11 t H1 locs ht0 hvm hw_11 hB hz1 hk1 hS => ?_)
    obtain ⟨rfl, rfl⟩ := hw_11.1 rfl
    obtain ⟨hP1, hK1, hD1⟩ := hB
    rw [ht0] at hP1
    have hK1 := va_K.moved hvm.symm hK1
    obtain ⟨hP, hD⟩ := va_join (wr := [((a 1), .inl (cI, 6792, .inl zI0))]) (w1 := [((a 0), .inr (12, zMo a (upd zI0 0 1)))]) hP hD [0] [1] rfl rfl (by decide) (by decide) hk1 hFc hP1 hD1
    generalize H1 = H at hP hS ⊢
    have hP : va_P D vwCl [((a 1), .inl (cI, 6792, .inl zI0)), ((a 0), .inr (12, zMo a (upd zI0 0 1)))] H := hP
    have hD : va_D A [((a 1), .inl (cI, 6792, .inl zI0)), ((a 0), .inr (12, zMo a (upd zI0 0 1)))] := hD
    refine lv_if_ne (tgt := 65) hx hb dX12_direction_8 (by decide) (fun c_12 => ?_) (fun c_12 => ?_)
    · skip
      refine lv_iconst (v := 0) hx hb dX12_direction_65 (by decide) ?_
      have hP9 := hP.sub (ws' := [((a 0), .inr (12, zMo a (upd zI0 0 1)))]) [1] rfl
      have hD9 := hD.sub (ws' := [((a 0), .inr (12, zMo a (upd zI0 0 1)))]) [1] (by decide) rfl
      have hK9 := hK.sub (tys' := []) [] rfl
      refine W.widen (k := 0) (n := 0) (Nat.le_of_ble_eq_true rfl) (Nat.le_of_ble_eq_true rfl) ?_
      exact W.iret (v := 0) hx hb hr (fun t ht0 hW => ⟨⟨0, upd zI0 0 1, rfl, (show zS_direction p0 p1 1 0 from (.inl ⟨rfl, by omega⟩)), (zE_of hP9 hK9 hD9 ht0 hW)⟩, hS.F ht0⟩) hS.2.2 dX12_direction_66
    · skip
      exact absurd c_12 (by decide)
set_option maxHeartbeats 4000000 in
set_option maxRecDepth 100000 in
theorem k_X12_lawAt (l : Launch) (sz : Nat) (D : va_G) (a : Nat → Nat) (cI : ClassId) (p0 p1 : Int32) : Met l yX12_lawAt (.code yX12_lawAt cX12_lawAt 5 (some .int) :: zT) ({ frames := 2, cells := 0, slots := 0, locals := 43 }) (va_Pc [.ref (a 0), .int p0, .int p1] (zM D [((a 0), .inr (12, zMo a zI0)), ((a 1), .inl (cI, 6792, .inl zI0))] [(cI, .int)] sz)) (va_Qi (fun (r : Int32) (u : Nat → Int32) => zS_lawAt p0 p1 (u 0) r) (fun u t => zE D [(a 0, .inr (12, zMo a u))] [] (va_A [((a 0), .inr (12, zMo a zI0)), ((a 1), .inl (cI, 6792, .inl zI0))] sz) t) (va_A [((a 0), .inr (12, zMo a zI0)), ((a 1), .inl (cI, 6792, .inl zI0))] sz)) 0 0 (va_A [((a 0), .inr (12, zMo a zI0)), ((a 1), .inl (cI, 6792, .inl zI0))] sz) := by
  refine Met.ofW (cc := cX12_lawAt) (maxL := 5) (ret := (some .int)) (by decide) rfl ?_
  intro p e s m args below meth c s₁ B hml hv
  obtain ⟨rfl, hsz, hP, hK, hD0⟩ := hv
  have hx := B.exec
  have hb := B.bytes
  have hr := B.returns
  have hts := atoms_spec (ws := (.code yX12_lawAt cX12_lawAt 5 (some .int) :: zT)) B.pre
  have ht : ∀ w ∈ zT, w.before _ s = true := fun w h => hts w (List.mem_cons_of_mem _ h)
  have hown : s.vm.findClass RX12 = some m.cls := findClass_of_methodNamed B.named
  have hlocks := B.notSynchronized
  subst hsz
  have hD := hD0.self (sz := s.heap.size)
  generalize hAe : va_A [((a 0), .inr (12, zMo a zI0)), ((a 1), .inl (cI, 6792, .inl zI0))] s.heap.size = A at hD ⊢
  have hA : ∀ q : Nat, s.heap.size ≤ q → A q := fun q h => by rw [← hAe]; exact Or.inr h
  have hS : va_S A s.heap s.heap [] := va_S.rf
  have hP : va_P D vwCl [((a 0), .inr (12, zMo a zI0)), ((a 1), .inl (cI, 6792, .inl zI0))] s.heap := hP
  have hl := lv_entry ([.ref (a 0), .int p0, .int p1]) (n := 5) (Nat.le_of_ble_eq_true rfl)
  rw [lg_entry_eq]
  generalize (lg_sl ([.ref (a 0), .int p0, .int p1]) ++ List.replicate (5 - (lg_sl ([.ref (a 0), .int p0, .int p1])).length) Slot.unset).toArray = ls at hl ⊢
  have hl : lv_has ls 5 [(0, .ref (a 0)), (1, .int p0), (2, .int p1)] := hl
  skip
  refine lv_aload_n hx hb dX12_lawAt_0 rfl (lv_at hl 0 rfl) ?_
  refine lv_iload_n hx hb dX12_lawAt_1 rfl (lv_at hl 1 rfl) ?_
  refine vp_callSi (va_runV (As := [.int p0]) (rest := []) ⟨hx, hb, hml, hown, ht⟩ (k_X12_atLaw l D a zI0 cI p0) (cwV 1 ht (zG_V zw_73 zw_74 zw_75 zw_2 zw_76) rfl rfl rfl (by decide +kernel) ⟨Nat.le_of_ble_eq_true rfl, Nat.le_of_ble_eq_true rfl⟩) (zR_V (va_recv hK hP (ci := 12) (q0 := 0) rfl rfl) hP hK) rfl rfl hl.1 rfl (lv_room (Nat.le_of_ble_eq_true rfl)) dX12_lawAt_2 ⟨Nat.le_of_ble_eq_true rfl, Nat.le_of_ble_eq_true rfl⟩).run (fun r_1 hw_1 => ?_)
  obtain rfl : r_1 = (-1) := hw_1
  refine lv_istore_n (lv' := [(3, .int (-1)), (0, .ref (a 0)), (1, .int p0), (2, .int p1)]) hx hb dX12_lawAt_5 rfl hl (by decide) rfl (fun ls hl => ?_)
  refine lv_aload_n hx hb dX12_lawAt_6 rfl (lv_at hl 1 rfl) ?_
  refine lv_iload_n hx hb dX12_lawAt_7 rfl (lv_at hl 0 rfl) ?_
  refine lv_iconst (v := (-1)) hx hb dX12_lawAt_8 (by decide) ?_
  refine lv_icmp_eq (tgt := 16) hx hb dX12_lawAt_9 (by decide) (fun c_2 => ?_) (fun c_2 => ?_)
  · skip
    refine lv_iconst (v := 0) hx hb dX12_lawAt_16 (by decide) ?_
    have hPc := hP.sub (ws' := [((a 0), .inr (12, zMo a zI0))]) [0] rfl
    have hDc := hD.sub (ws' := [((a 0), .inr (12, zMo a zI0))]) [0] (by decide) rfl
    have hKc := hK.sub (tys' := []) [] rfl
    have hFc := va_free (wc := [((a 0), .inr (12, zMo a zI0))]) hD hS hA [0] rfl
    refine va_calli (va_runV (As := [.int 0]) (rest := []) ⟨hx, hb, hml, hown, ht⟩ (k_X12_lacks l _ D a zI0 0 (by decide)) (cwV 1 ht (zG_V zw_62 zw_63 zw_64 zw_2 zw_65) rfl rfl rfl (by decide +kernel) ⟨Nat.le_of_ble_eq_true rfl, Nat.le_of_ble_eq_true rfl⟩) (zM_V (va_recv hK hP (ci := 12) (q0 := 0) rfl rfl) hPc hKc hDc) rfl rfl hl.1 rfl (lv_room (Nat.le_of_ble_eq_true rfl)) dX12_lawAt_17 ⟨Nat.le_of_ble_eq_true rfl, Nat.le_of_ble_eq_true rfl⟩) hS (fun q _ h => hFc q h) hFc (fun r_3 u_3 t H1 locs ht0 hvm hw_3 hB hz1 hk1 hS => ?_)
    obtain ⟨rfl, rfl⟩ := hw_3.1 rfl
    obtain ⟨hP1, hK1, hD1⟩ := hB
    rw [ht0] at hP1
    have hK1 := va_K.moved hvm.symm hK1
    obtain ⟨hP, hD⟩ := va_join (wr := [((a 1), .inl (cI, 6792, .inl zI0))]) (w1 := [((a 0), .inr (12, zMo a (upd zI0 0 1)))]) hP hD [0] [1] rfl rfl (by decide) (by decide) hk1 hFc hP1 hD1
    generalize H1 = H at hP hS ⊢
    have hP : va_P D vwCl [((a 1), .inl (cI, 6792, .inl zI0)), ((a 0), .inr (12, zMo a (upd zI0 0 1)))] H := hP
    have hD : va_D A [((a 1), .inl (cI, 6792, .inl zI0)), ((a 0), .inr (12, zMo a (upd zI0 0 1)))] := hD
    refine lv_if_ne (tgt := 37) hx hb dX12_lawAt_20 (by decide) (fun c_4 => ?_) (fun c_4 => ?_)
    · skip
      refine lv_iconst (v := 0) hx hb dX12_lawAt_37 (by decide) ?_
      have hP9 := hP.sub (ws' := [((a 0), .inr (12, zMo a (upd zI0 0 1)))]) [1] rfl
      have hD9 := hD.sub (ws' := [((a 0), .inr (12, zMo a (upd zI0 0 1)))]) [1] (by decide) rfl
      have hK9 := hK.sub (tys' := []) [] rfl
      refine W.widen (k := 0) (n := 0) (Nat.le_of_ble_eq_true rfl) (Nat.le_of_ble_eq_true rfl) ?_
      exact W.iret (v := 0) hx hb hr (fun t ht0 hW => ⟨⟨0, upd zI0 0 1, rfl, (show zS_lawAt p0 p1 1 0 from ⟨rfl, by trivial⟩), (zE_of hP9 hK9 hD9 ht0 hW)⟩, hS.F ht0⟩) hS.2.2 dX12_lawAt_38
    · skip
      exact absurd c_4 (by decide)
  · skip
    exact absurd c_2 (by decide)
set_option maxHeartbeats 4000000 in
set_option maxRecDepth 100000 in
theorem k_X12_rests (l : Launch) (sz : Nat) (D : va_G) (a : Nat → Nat) (cI : ClassId) (p0 p1 : Int32) : Met l yX12_rests (.code yX12_rests cX12_rests 3 (some .boolean) :: zT) ({ frames := 2, cells := 0, slots := 0, locals := 43 }) (va_Pc [.ref (a 0), .int p0, .int p1] (zM D [((a 0), .inr (12, zMo a zI0)), ((a 1), .inl (cI, 6792, .inl zI0))] [(cI, .int)] sz)) (va_Qi (fun (r : Int32) (u : Nat → Int32) => zS_rests p0 p1 (u 0) r) (fun u t => zE D [(a 0, .inr (12, zMo a u))] [] (va_A [((a 0), .inr (12, zMo a zI0)), ((a 1), .inl (cI, 6792, .inl zI0))] sz) t) (va_A [((a 0), .inr (12, zMo a zI0)), ((a 1), .inl (cI, 6792, .inl zI0))] sz)) 0 0 (va_A [((a 0), .inr (12, zMo a zI0)), ((a 1), .inl (cI, 6792, .inl zI0))] sz) := by
  refine Met.ofW (cc := cX12_rests) (maxL := 3) (ret := (some .boolean)) (by decide) rfl ?_
  intro p e s m args below meth c s₁ B hml hv
  obtain ⟨rfl, hsz, hP, hK, hD0⟩ := hv
  have hx := B.exec
  have hb := B.bytes
  have hr := B.returns
  have hts := atoms_spec (ws := (.code yX12_rests cX12_rests 3 (some .boolean) :: zT)) B.pre
  have ht : ∀ w ∈ zT, w.before _ s = true := fun w h => hts w (List.mem_cons_of_mem _ h)
  have hown : s.vm.findClass RX12 = some m.cls := findClass_of_methodNamed B.named
  have hlocks := B.notSynchronized
  subst hsz
  have hD := hD0.self (sz := s.heap.size)
  generalize hAe : va_A [((a 0), .inr (12, zMo a zI0)), ((a 1), .inl (cI, 6792, .inl zI0))] s.heap.size = A at hD ⊢
  have hA : ∀ q : Nat, s.heap.size ≤ q → A q := fun q h => by rw [← hAe]; exact Or.inr h
  have hS : va_S A s.heap s.heap [] := va_S.rf
  have hP : va_P D vwCl [((a 0), .inr (12, zMo a zI0)), ((a 1), .inl (cI, 6792, .inl zI0))] s.heap := hP
  have hl := lv_entry ([.ref (a 0), .int p0, .int p1]) (n := 3) (Nat.le_of_ble_eq_true rfl)
  rw [lg_entry_eq]
  generalize (lg_sl ([.ref (a 0), .int p0, .int p1]) ++ List.replicate (3 - (lg_sl ([.ref (a 0), .int p0, .int p1])).length) Slot.unset).toArray = ls at hl ⊢
  have hl : lv_has ls 3 [(0, .ref (a 0)), (1, .int p0), (2, .int p1)] := hl
  skip
  refine lv_aload_n hx hb dX12_rests_0 rfl (lv_at hl 0 rfl) ?_
  refine lv_aload_n hx hb dX12_rests_1 rfl (lv_at hl 0 rfl) ?_
  refine lv_iload_n hx hb dX12_rests_2 rfl (lv_at hl 1 rfl) ?_
  refine vp_callSi (va_runV (As := [.int p0]) (rest := [.ref (a 0)]) ⟨hx, hb, hml, hown, ht⟩ (k_X12_atLaw l D a zI0 cI p0) (cwV 1 ht (zG_V zw_73 zw_74 zw_75 zw_2 zw_76) rfl rfl rfl (by decide +kernel) ⟨Nat.le_of_ble_eq_true rfl, Nat.le_of_ble_eq_true rfl⟩) (zR_V (va_recv hK hP (ci := 12) (q0 := 0) rfl rfl) hP hK) rfl rfl hl.1 rfl (lv_room (Nat.le_of_ble_eq_true rfl)) dX12_rests_3 ⟨Nat.le_of_ble_eq_true rfl, Nat.le_of_ble_eq_true rfl⟩).run (fun r_1 hw_1 => ?_)
  obtain rfl : r_1 = (-1) := hw_1
  refine lv_iconst (v := (-1)) hx hb dX12_rests_6 (by decide) ?_
  refine lv_icmp_eq (tgt := 23) hx hb dX12_rests_7 (by decide) (fun c_2 => ?_) (fun c_2 => ?_)
  · skip
    refine lv_iconst (v := 0) hx hb dX12_rests_23 (by decide) ?_
    have hPc := hP.sub (ws' := [((a 0), .inr (12, zMo a zI0))]) [0] rfl
    have hDc := hD.sub (ws' := [((a 0), .inr (12, zMo a zI0))]) [0] (by decide) rfl
    have hKc := hK.sub (tys' := []) [] rfl
    have hFc := va_free (wc := [((a 0), .inr (12, zMo a zI0))]) hD hS hA [0] rfl
    refine va_calli (va_runV (As := [.int 0]) (rest := []) ⟨hx, hb, hml, hown, ht⟩ (k_X12_lacks l _ D a zI0 0 (by decide)) (cwV 1 ht (zG_V zw_62 zw_63 zw_64 zw_2 zw_65) rfl rfl rfl (by decide +kernel) ⟨Nat.le_of_ble_eq_true rfl, Nat.le_of_ble_eq_true rfl⟩) (zM_V (va_recv hK hP (ci := 12) (q0 := 0) rfl rfl) hPc hKc hDc) rfl rfl hl.1 rfl (lv_room (Nat.le_of_ble_eq_true rfl)) dX12_rests_24 ⟨Nat.le_of_ble_eq_true rfl, Nat.le_of_ble_eq_true rfl⟩) hS (fun q _ h => hFc q h) hFc (fun r_3 u_3 t H1 locs ht0 hvm hw_3 hB hz1 hk1 hS => ?_)
    obtain ⟨rfl, rfl⟩ := hw_3.1 rfl
    obtain ⟨hP1, hK1, hD1⟩ := hB
    rw [ht0] at hP1
    have hK1 := va_K.moved hvm.symm hK1
    obtain ⟨hP, hD⟩ := va_join (wr := [((a 1), .inl (cI, 6792, .inl zI0))]) (w1 := [((a 0), .inr (12, zMo a (upd zI0 0 1)))]) hP hD [0] [1] rfl rfl (by decide) (by decide) hk1 hFc hP1 hD1
    generalize H1 = H at hP hS ⊢
    have hP : va_P D vwCl [((a 1), .inl (cI, 6792, .inl zI0)), ((a 0), .inr (12, zMo a (upd zI0 0 1)))] H := hP
    have hD : va_D A [((a 1), .inl (cI, 6792, .inl zI0)), ((a 0), .inr (12, zMo a (upd zI0 0 1)))] := hD
    refine lv_if_ne (tgt := 47) hx hb dX12_rests_27 (by decide) (fun c_4 => ?_) (fun c_4 => ?_)
    · skip
      refine lv_iconst (v := 0) hx hb dX12_rests_47 (by decide) ?_
      have hP9 := hP.sub (ws' := [((a 0), .inr (12, zMo a (upd zI0 0 1)))]) [1] rfl
      have hD9 := hD.sub (ws' := [((a 0), .inr (12, zMo a (upd zI0 0 1)))]) [1] (by decide) rfl
      have hK9 := hK.sub (tys' := []) [] rfl
      refine W.widen (k := 0) (n := 0) (Nat.le_of_ble_eq_true rfl) (Nat.le_of_ble_eq_true rfl) ?_
      exact W.zret (v := 0) hx hb hr rfl (fun t ht0 hW => ⟨⟨0, upd zI0 0 1, rfl, (show zS_rests p0 p1 1 0 from ⟨rfl, by trivial⟩), (zE_of hP9 hK9 hD9 ht0 hW)⟩, hS.F ht0⟩) hS.2.2 dX12_rests_48
    · skip
      exact absurd c_4 (by decide)
  · skip
    exact absurd c_2 (by decide)
set_option maxHeartbeats 4000000 in
set_option maxRecDepth 100000 in
theorem k_X12_lines (l : Launch) (sz : Nat) (D : va_G) (a : Nat → Nat) (cI : ClassId) (p0 : Int32) : Met l yX12_lines (.code yX12_lines cX12_lines 2 (some .int) :: zT) ({ frames := 2, cells := 0, slots := 0, locals := 43 }) (va_Pc [.ref (a 0), .int p0] (zM D [((a 0), .inr (12, zMo a zI0)), ((a 1), .inl (cI, 6792, .inl zI0))] [(cI, .int)] sz)) (va_Qi (fun (r : Int32) (u : Nat → Int32) => zS_lines p0 (u 0) r) (fun u t => zE D [(a 0, .inr (12, zMo a u))] [] (va_A [((a 0), .inr (12, zMo a zI0)), ((a 1), .inl (cI, 6792, .inl zI0))] sz) t) (va_A [((a 0), .inr (12, zMo a zI0)), ((a 1), .inl (cI, 6792, .inl zI0))] sz)) 0 0 (va_A [((a 0), .inr (12, zMo a zI0)), ((a 1), .inl (cI, 6792, .inl zI0))] sz) := by
  refine Met.ofW (cc := cX12_lines) (maxL := 2) (ret := (some .int)) (by decide) rfl ?_
  intro p e s m args below meth c s₁ B hml hv
  obtain ⟨rfl, hsz, hP, hK, hD0⟩ := hv
  have hx := B.exec
  have hb := B.bytes
  have hr := B.returns
  have hts := atoms_spec (ws := (.code yX12_lines cX12_lines 2 (some .int) :: zT)) B.pre
  have ht : ∀ w ∈ zT, w.before _ s = true := fun w h => hts w (List.mem_cons_of_mem _ h)
  have hown : s.vm.findClass RX12 = some m.cls := findClass_of_methodNamed B.named
  have hlocks := B.notSynchronized
  subst hsz
  have hD := hD0.self (sz := s.heap.size)
  generalize hAe : va_A [((a 0), .inr (12, zMo a zI0)), ((a 1), .inl (cI, 6792, .inl zI0))] s.heap.size = A at hD ⊢
  have hA : ∀ q : Nat, s.heap.size ≤ q → A q := fun q h => by rw [← hAe]; exact Or.inr h
  have hS : va_S A s.heap s.heap [] := va_S.rf
  have hP : va_P D vwCl [((a 0), .inr (12, zMo a zI0)), ((a 1), .inl (cI, 6792, .inl zI0))] s.heap := hP
  have hl := lv_entry ([.ref (a 0), .int p0]) (n := 2) (Nat.le_of_ble_eq_true rfl)
  rw [lg_entry_eq]
  generalize (lg_sl ([.ref (a 0), .int p0]) ++ List.replicate (2 - (lg_sl ([.ref (a 0), .int p0])).length) Slot.unset).toArray = ls at hl ⊢
  have hl : lv_has ls 2 [(0, .ref (a 0)), (1, .int p0)] := hl
  skip
  refine lv_aload_n hx hb dX12_lines_0 rfl (lv_at hl 0 rfl) ?_
  refine lv_iload_n hx hb dX12_lines_1 rfl (lv_at hl 1 rfl) ?_
  refine vp_callSi (va_runS (As := [.int p0]) (rest := [.ref (a 0)]) ⟨hx, hb, hml, hown, ht⟩ (k_X12_isChain l p0) (va_cwS 1 ht (zG_S zw_77 zw_78 zw_2 zw_79) rfl rfl rfl (by decide +kernel) ⟨Nat.le_of_ble_eq_true rfl, Nat.le_of_ble_eq_true rfl⟩) zN_S rfl rfl hl.1 rfl (lv_room (Nat.le_of_ble_eq_true rfl)) dX12_lines_2 ⟨Nat.le_of_ble_eq_true rfl, Nat.le_of_ble_eq_true rfl⟩).run (fun r_1 hw_1 => ?_)
  rcases hw_1 with ⟨rfl, h_1⟩ | ⟨rfl, h_1⟩
  · skip
    have hPc := hP.sub (ws' := [((a 0), .inr (12, zMo a zI0))]) [0] rfl
    have hDc := hD.sub (ws' := [((a 0), .inr (12, zMo a zI0))]) [0] (by decide) rfl
    have hKc := hK.sub (tys' := []) [] rfl
    have hFc := va_free (wc := [((a 0), .inr (12, zMo a zI0))]) hD hS hA [0] rfl
    refine va_calli (va_runV (As := [.int 1]) (rest := []) ⟨hx, hb, hml, hown, ht⟩ (k_X12_lacks l _ D a zI0 1 (by decide)) (cwV 1 ht (zG_V zw_62 zw_63 zw_64 zw_2 zw_65) rfl rfl rfl (by decide +kernel) ⟨Nat.le_of_ble_eq_true rfl, Nat.le_of_ble_eq_true rfl⟩) (zM_V (va_recv hK hP (ci := 12) (q0 := 0) rfl rfl) hPc hKc hDc) rfl rfl hl.1 rfl (lv_room (Nat.le_of_ble_eq_true rfl)) dX12_lines_5 ⟨Nat.le_of_ble_eq_true rfl, Nat.le_of_ble_eq_true rfl⟩) hS (fun q _ h => hFc q h) hFc (fun r_2 u_2 t H1 locs ht0 hvm hw_2 hB hz1 hk1 hS => ?_)
    obtain ⟨rfl, rfl⟩ := hw_2.2 (by decide)
    obtain ⟨hP1, hK1, hD1⟩ := hB
    rw [ht0] at hP1
    have hK1 := va_K.moved hvm.symm hK1
    obtain ⟨hP, hD⟩ := va_join (wr := [((a 1), .inl (cI, 6792, .inl zI0))]) (w1 := [((a 0), .inr (12, zMo a (upd zI0 0 0)))]) hP hD [0] [1] rfl rfl (by decide) (by decide) hk1 hFc hP1 hD1
    generalize H1 = H at hP hS ⊢
    have hP : va_P D vwCl [((a 1), .inl (cI, 6792, .inl zI0)), ((a 0), .inr (12, zMo a (upd zI0 0 0)))] H := hP
    have hD : va_D A [((a 1), .inl (cI, 6792, .inl zI0)), ((a 0), .inr (12, zMo a (upd zI0 0 0)))] := hD
    refine lv_if_eq (tgt := 15) hx hb dX12_lines_8 (by decide) (fun c_3 => ?_) (fun c_3 => ?_)
    · skip
      refine lv_aload_n hx hb dX12_lines_15 rfl (lv_at hl 0 rfl) ?_
      refine lv_iload_n hx hb dX12_lines_16 rfl (lv_at hl 1 rfl) ?_
      refine vp_callSi (va_runV (As := [.int p0]) (rest := []) ⟨hx, hb, hml, hown, ht⟩ (k_X12_linesOf l D a (upd zI0 0 0) cI p0 h_1) (cwV 1 ht (zG_V zw_47 zw_48 zw_49 zw_2 zw_50) rfl rfl rfl (by decide +kernel) ⟨Nat.le_of_ble_eq_true rfl, Nat.le_of_ble_eq_true rfl⟩) (zR_V (va_recv hK hP (ci := 12) (q0 := 1) rfl rfl) (hP.sub (ws' := [((a 0), .inr (12, zMo a (upd zI0 0 0))), ((a 1), .inl (cI, 6792, .inl zI0))]) [1, 0] rfl) hK) rfl rfl hl.1 rfl (lv_room (Nat.le_of_ble_eq_true rfl)) dX12_lines_17 ⟨Nat.le_of_ble_eq_true rfl, Nat.le_of_ble_eq_true rfl⟩).run (fun r_4 hw_4 => ?_)
      obtain rfl : r_4 = 0 := hw_4
      have hP9 := hP.sub (ws' := [((a 0), .inr (12, zMo a (upd zI0 0 0)))]) [1] rfl
      have hD9 := hD.sub (ws' := [((a 0), .inr (12, zMo a (upd zI0 0 0)))]) [1] (by decide) rfl
      have hK9 := hK.sub (tys' := []) [] rfl
      refine W.widen (k := 0) (n := 0) (Nat.le_of_ble_eq_true rfl) (Nat.le_of_ble_eq_true rfl) ?_
      exact W.iret (v := 0) hx hb hr (fun t ht0 hW => ⟨⟨0, upd zI0 0 0, rfl, (show zS_lines p0 0 0 from (.inr ⟨rfl, by omega, rfl⟩)), (zE_of hP9 hK9 hD9 ht0 hW)⟩, hS.F ht0⟩) hS.2.2 dX12_lines_20
    · skip
      exact absurd c_3 (by decide)
  · skip
    have hPc := hP.sub (ws' := [((a 0), .inr (12, zMo a zI0))]) [0] rfl
    have hDc := hD.sub (ws' := [((a 0), .inr (12, zMo a zI0))]) [0] (by decide) rfl
    have hKc := hK.sub (tys' := []) [] rfl
    have hFc := va_free (wc := [((a 0), .inr (12, zMo a zI0))]) hD hS hA [0] rfl
    refine va_calli (va_runV (As := [.int 0]) (rest := []) ⟨hx, hb, hml, hown, ht⟩ (k_X12_lacks l _ D a zI0 0 (by decide)) (cwV 1 ht (zG_V zw_62 zw_63 zw_64 zw_2 zw_65) rfl rfl rfl (by decide +kernel) ⟨Nat.le_of_ble_eq_true rfl, Nat.le_of_ble_eq_true rfl⟩) (zM_V (va_recv hK hP (ci := 12) (q0 := 0) rfl rfl) hPc hKc hDc) rfl rfl hl.1 rfl (lv_room (Nat.le_of_ble_eq_true rfl)) dX12_lines_5 ⟨Nat.le_of_ble_eq_true rfl, Nat.le_of_ble_eq_true rfl⟩) hS (fun q _ h => hFc q h) hFc (fun r_5 u_5 t H1 locs ht0 hvm hw_5 hB hz1 hk1 hS => ?_)
    obtain ⟨rfl, rfl⟩ := hw_5.1 rfl
    obtain ⟨hP1, hK1, hD1⟩ := hB
    rw [ht0] at hP1
    have hK1 := va_K.moved hvm.symm hK1
    obtain ⟨hP, hD⟩ := va_join (wr := [((a 1), .inl (cI, 6792, .inl zI0))]) (w1 := [((a 0), .inr (12, zMo a (upd zI0 0 1)))]) hP hD [0] [1] rfl rfl (by decide) (by decide) hk1 hFc hP1 hD1
    generalize H1 = H at hP hS ⊢
    have hP : va_P D vwCl [((a 1), .inl (cI, 6792, .inl zI0)), ((a 0), .inr (12, zMo a (upd zI0 0 1)))] H := hP
    have hD : va_D A [((a 1), .inl (cI, 6792, .inl zI0)), ((a 0), .inr (12, zMo a (upd zI0 0 1)))] := hD
    refine lv_if_eq (tgt := 15) hx hb dX12_lines_8 (by decide) (fun c_6 => ?_) (fun c_6 => ?_)
    · skip
      exact absurd c_6 (by decide)
    · skip
      refine lv_iconst (v := 0) hx hb dX12_lines_11 (by decide) ?_
      refine lv_goto (tgt := 20) hx hb dX12_lines_12 (by decide) ?_
      have hP9 := hP.sub (ws' := [((a 0), .inr (12, zMo a (upd zI0 0 1)))]) [1] rfl
      have hD9 := hD.sub (ws' := [((a 0), .inr (12, zMo a (upd zI0 0 1)))]) [1] (by decide) rfl
      have hK9 := hK.sub (tys' := []) [] rfl
      refine W.widen (k := 0) (n := 0) (Nat.le_of_ble_eq_true rfl) (Nat.le_of_ble_eq_true rfl) ?_
      exact W.iret (v := 0) hx hb hr (fun t ht0 hW => ⟨⟨0, upd zI0 0 1, rfl, (show zS_lines p0 1 0 from (.inl ⟨rfl, by omega⟩)), (zE_of hP9 hK9 hD9 ht0 hW)⟩, hS.F ht0⟩) hS.2.2 dX12_lines_20
set_option maxHeartbeats 4000000 in
set_option maxRecDepth 100000 in
theorem k_X12_wrong (l : Launch) (sz : Nat) (D : va_G) (a : Nat → Nat) (cI : ClassId) (p0 : Int32) : Met l yX12_wrong (.code yX12_wrong cX12_wrong 2 (some .int) :: zT) ({ frames := 3, cells := 0, slots := 0, locals := 65 }) (va_Pc [.ref (a 0), .int p0] (zM D [((a 0), .inr (12, zMo a zI0)), ((a 1), .inl (cI, 6792, .inl zI0))] [(cI, .int)] sz)) (va_Qi (fun (r : Int32) (u : Nat → Int32) => zS_wrong p0 (u 0) r) (fun u t => zE D [(a 0, .inr (12, zMo a u))] [] (va_A [((a 0), .inr (12, zMo a zI0)), ((a 1), .inl (cI, 6792, .inl zI0))] sz) t) (va_A [((a 0), .inr (12, zMo a zI0)), ((a 1), .inl (cI, 6792, .inl zI0))] sz)) 0 0 (va_A [((a 0), .inr (12, zMo a zI0)), ((a 1), .inl (cI, 6792, .inl zI0))] sz) := by
  refine Met.ofW (cc := cX12_wrong) (maxL := 2) (ret := (some .int)) (by decide) rfl ?_
  intro p e s m args below meth c s₁ B hml hv
  obtain ⟨rfl, hsz, hP, hK, hD0⟩ := hv
  have hx := B.exec
  have hb := B.bytes
  have hr := B.returns
  have hts := atoms_spec (ws := (.code yX12_wrong cX12_wrong 2 (some .int) :: zT)) B.pre
  have ht : ∀ w ∈ zT, w.before _ s = true := fun w h => hts w (List.mem_cons_of_mem _ h)
  have hown : s.vm.findClass RX12 = some m.cls := findClass_of_methodNamed B.named
  have hlocks := B.notSynchronized
  subst hsz
  have hD := hD0.self (sz := s.heap.size)
  generalize hAe : va_A [((a 0), .inr (12, zMo a zI0)), ((a 1), .inl (cI, 6792, .inl zI0))] s.heap.size = A at hD ⊢
  have hA : ∀ q : Nat, s.heap.size ≤ q → A q := fun q h => by rw [← hAe]; exact Or.inr h
  have hS : va_S A s.heap s.heap [] := va_S.rf
  have hP : va_P D vwCl [((a 0), .inr (12, zMo a zI0)), ((a 1), .inl (cI, 6792, .inl zI0))] s.heap := hP
  have hl := lv_entry ([.ref (a 0), .int p0]) (n := 2) (Nat.le_of_ble_eq_true rfl)
  rw [lg_entry_eq]
  generalize (lg_sl ([.ref (a 0), .int p0]) ++ List.replicate (2 - (lg_sl ([.ref (a 0), .int p0])).length) Slot.unset).toArray = ls at hl ⊢
  have hl : lv_has ls 2 [(0, .ref (a 0)), (1, .int p0)] := hl
  skip
  refine lv_aload_n hx hb dX12_wrong_0 rfl (lv_at hl 0 rfl) ?_
  refine lv_iload_n hx hb dX12_wrong_1 rfl (lv_at hl 1 rfl) ?_
  refine vp_callSi (va_runS (As := [.int p0]) (rest := [.ref (a 0)]) ⟨hx, hb, hml, hown, ht⟩ (k_X12_isChain l p0) (va_cwS 1 ht (zG_S zw_77 zw_78 zw_2 zw_79) rfl rfl rfl (by decide +kernel) ⟨Nat.le_of_ble_eq_true rfl, Nat.le_of_ble_eq_true rfl⟩) zN_S rfl rfl hl.1 rfl (lv_room (Nat.le_of_ble_eq_true rfl)) dX12_wrong_2 ⟨Nat.le_of_ble_eq_true rfl, Nat.le_of_ble_eq_true rfl⟩).run (fun r_1 hw_1 => ?_)
  rcases hw_1 with ⟨rfl, h_1⟩ | ⟨rfl, h_1⟩
  · skip
    have hPc := hP.sub (ws' := [((a 0), .inr (12, zMo a zI0))]) [0] rfl
    have hDc := hD.sub (ws' := [((a 0), .inr (12, zMo a zI0))]) [0] (by decide) rfl
    have hKc := hK.sub (tys' := []) [] rfl
    have hFc := va_free (wc := [((a 0), .inr (12, zMo a zI0))]) hD hS hA [0] rfl
    refine va_calli (va_runV (As := [.int 1]) (rest := []) ⟨hx, hb, hml, hown, ht⟩ (k_X12_lacks l _ D a zI0 1 (by decide)) (cwV 1 ht (zG_V zw_62 zw_63 zw_64 zw_2 zw_65) rfl rfl rfl (by decide +kernel) ⟨Nat.le_of_ble_eq_true rfl, Nat.le_of_ble_eq_true rfl⟩) (zM_V (va_recv hK hP (ci := 12) (q0 := 0) rfl rfl) hPc hKc hDc) rfl rfl hl.1 rfl (lv_room (Nat.le_of_ble_eq_true rfl)) dX12_wrong_5 ⟨Nat.le_of_ble_eq_true rfl, Nat.le_of_ble_eq_true rfl⟩) hS (fun q _ h => hFc q h) hFc (fun r_2 u_2 t H1 locs ht0 hvm hw_2 hB hz1 hk1 hS => ?_)
    obtain ⟨rfl, rfl⟩ := hw_2.2 (by decide)
    obtain ⟨hP1, hK1, hD1⟩ := hB
    rw [ht0] at hP1
    have hK1 := va_K.moved hvm.symm hK1
    obtain ⟨hP, hD⟩ := va_join (wr := [((a 1), .inl (cI, 6792, .inl zI0))]) (w1 := [((a 0), .inr (12, zMo a (upd zI0 0 0)))]) hP hD [0] [1] rfl rfl (by decide) (by decide) hk1 hFc hP1 hD1
    generalize H1 = H at hP hS ⊢
    have hP : va_P D vwCl [((a 1), .inl (cI, 6792, .inl zI0)), ((a 0), .inr (12, zMo a (upd zI0 0 0)))] H := hP
    have hD : va_D A [((a 1), .inl (cI, 6792, .inl zI0)), ((a 0), .inr (12, zMo a (upd zI0 0 0)))] := hD
    refine lv_if_eq (tgt := 15) hx hb dX12_wrong_8 (by decide) (fun c_3 => ?_) (fun c_3 => ?_)
    · skip
      refine lv_aload_n hx hb dX12_wrong_15 rfl (lv_at hl 0 rfl) ?_
      refine lv_iload_n hx hb dX12_wrong_16 rfl (lv_at hl 1 rfl) ?_
      refine lv_aload_n hx hb dX12_wrong_17 rfl (lv_at hl 0 rfl) ?_
      refine vp_callSi (va_runV (As := []) (rest := [.int p0, .ref (a 0)]) ⟨hx, hb, hml, hown, ht⟩ (k_X12_allOpen l D a (upd zI0 0 0) cI) (cwV 0 ht (zG_V zw_86 zw_87 zw_88 zw_2 zw_89) rfl rfl rfl (by decide +kernel) ⟨Nat.le_of_ble_eq_true rfl, Nat.le_of_ble_eq_true rfl⟩) (zR_V (va_recv hK hP (ci := 12) (q0 := 1) rfl rfl) (hP.sub (ws' := [((a 0), .inr (12, zMo a (upd zI0 0 0))), ((a 1), .inl (cI, 6792, .inl zI0))]) [1, 0] rfl) hK) rfl rfl hl.1 rfl (lv_room (Nat.le_of_ble_eq_true rfl)) dX12_wrong_18 ⟨Nat.le_of_ble_eq_true rfl, Nat.le_of_ble_eq_true rfl⟩).run (fun r_4 hw_4 => ?_)
      obtain rfl : r_4 = 0 := hw_4
      refine vp_callSi (va_runV (As := [.int p0, .int 0]) (rest := []) ⟨hx, hb, hml, hown, ht⟩ (k_X12_wrongOf l D a (upd zI0 0 0) cI p0 0 h_1) (cwV 2 ht (zG_V zw_90 zw_91 zw_92 zw_2 zw_93) rfl rfl rfl (by decide +kernel) ⟨Nat.le_of_ble_eq_true rfl, Nat.le_of_ble_eq_true rfl⟩) (zR_V (va_recv hK hP (ci := 12) (q0 := 1) rfl rfl) (hP.sub (ws' := [((a 0), .inr (12, zMo a (upd zI0 0 0))), ((a 1), .inl (cI, 6792, .inl zI0))]) [1, 0] rfl) hK) rfl rfl hl.1 rfl (lv_room (Nat.le_of_ble_eq_true rfl)) dX12_wrong_21 ⟨Nat.le_of_ble_eq_true rfl, Nat.le_of_ble_eq_true rfl⟩).run (fun r_5 hw_5 => ?_)
      obtain rfl : r_5 = (-1) := hw_5
      have hP9 := hP.sub (ws' := [((a 0), .inr (12, zMo a (upd zI0 0 0)))]) [1] rfl
      have hD9 := hD.sub (ws' := [((a 0), .inr (12, zMo a (upd zI0 0 0)))]) [1] (by decide) rfl
      have hK9 := hK.sub (tys' := []) [] rfl
      refine W.widen (k := 0) (n := 0) (Nat.le_of_ble_eq_true rfl) (Nat.le_of_ble_eq_true rfl) ?_
      exact W.iret (v := (-1)) hx hb hr (fun t ht0 hW => ⟨⟨(-1), upd zI0 0 0, rfl, (show zS_wrong p0 0 (-1) from (.inr ⟨rfl, by omega, rfl⟩)), (zE_of hP9 hK9 hD9 ht0 hW)⟩, hS.F ht0⟩) hS.2.2 dX12_wrong_24
    · skip
      exact absurd c_3 (by decide)
  · skip
    have hPc := hP.sub (ws' := [((a 0), .inr (12, zMo a zI0))]) [0] rfl
    have hDc := hD.sub (ws' := [((a 0), .inr (12, zMo a zI0))]) [0] (by decide) rfl
    have hKc := hK.sub (tys' := []) [] rfl
    have hFc := va_free (wc := [((a 0), .inr (12, zMo a zI0))]) hD hS hA [0] rfl
    refine va_calli (va_runV (As := [.int 0]) (rest := []) ⟨hx, hb, hml, hown, ht⟩ (k_X12_lacks l _ D a zI0 0 (by decide)) (cwV 1 ht (zG_V zw_62 zw_63 zw_64 zw_2 zw_65) rfl rfl rfl (by decide +kernel) ⟨Nat.le_of_ble_eq_true rfl, Nat.le_of_ble_eq_true rfl⟩) (zM_V (va_recv hK hP (ci := 12) (q0 := 0) rfl rfl) hPc hKc hDc) rfl rfl hl.1 rfl (lv_room (Nat.le_of_ble_eq_true rfl)) dX12_wrong_5 ⟨Nat.le_of_ble_eq_true rfl, Nat.le_of_ble_eq_true rfl⟩) hS (fun q _ h => hFc q h) hFc (fun r_6 u_6 t H1 locs ht0 hvm hw_6 hB hz1 hk1 hS => ?_)
    obtain ⟨rfl, rfl⟩ := hw_6.1 rfl
    obtain ⟨hP1, hK1, hD1⟩ := hB
    rw [ht0] at hP1
    have hK1 := va_K.moved hvm.symm hK1
    obtain ⟨hP, hD⟩ := va_join (wr := [((a 1), .inl (cI, 6792, .inl zI0))]) (w1 := [((a 0), .inr (12, zMo a (upd zI0 0 1)))]) hP hD [0] [1] rfl rfl (by decide) (by decide) hk1 hFc hP1 hD1
    generalize H1 = H at hP hS ⊢
    have hP : va_P D vwCl [((a 1), .inl (cI, 6792, .inl zI0)), ((a 0), .inr (12, zMo a (upd zI0 0 1)))] H := hP
    have hD : va_D A [((a 1), .inl (cI, 6792, .inl zI0)), ((a 0), .inr (12, zMo a (upd zI0 0 1)))] := hD
    refine lv_if_eq (tgt := 15) hx hb dX12_wrong_8 (by decide) (fun c_7 => ?_) (fun c_7 => ?_)
    · skip
      exact absurd c_7 (by decide)
    · skip
      refine lv_iconst (v := 0) hx hb dX12_wrong_11 (by decide) ?_
      refine lv_goto (tgt := 24) hx hb dX12_wrong_12 (by decide) ?_
      have hP9 := hP.sub (ws' := [((a 0), .inr (12, zMo a (upd zI0 0 1)))]) [1] rfl
      have hD9 := hD.sub (ws' := [((a 0), .inr (12, zMo a (upd zI0 0 1)))]) [1] (by decide) rfl
      have hK9 := hK.sub (tys' := []) [] rfl
      refine W.widen (k := 0) (n := 0) (Nat.le_of_ble_eq_true rfl) (Nat.le_of_ble_eq_true rfl) ?_
      exact W.iret (v := 0) hx hb hr (fun t ht0 hW => ⟨⟨0, upd zI0 0 1, rfl, (show zS_wrong p0 1 0 from (.inl ⟨rfl, by omega⟩)), (zE_of hP9 hK9 hD9 ht0 hW)⟩, hS.F ht0⟩) hS.2.2 dX12_wrong_24
set_option maxHeartbeats 4000000 in
set_option maxRecDepth 100000 in
theorem k_X12_relation (l : Launch) (sz : Nat) (D : va_G) (a : Nat → Nat) (cI : ClassId) (p0 : Int32) : Met l yX12_relation (.code yX12_relation cX12_relation 2 (some .int) :: zT) ({ frames := 3, cells := 0, slots := 0, locals := 68 }) (va_Pc [.ref (a 0), .int p0] (zM D [((a 0), .inr (12, zMo a zI0)), ((a 1), .inl (cI, 6792, .inl zI0))] [(cI, .int)] sz)) (va_Qi (fun (r : Int32) (u : Nat → Int32) => zS_relation p0 (u 0) r) (fun u t => zE D [(a 0, .inr (12, zMo a u))] [] (va_A [((a 0), .inr (12, zMo a zI0)), ((a 1), .inl (cI, 6792, .inl zI0))] sz) t) (va_A [((a 0), .inr (12, zMo a zI0)), ((a 1), .inl (cI, 6792, .inl zI0))] sz)) 0 0 (va_A [((a 0), .inr (12, zMo a zI0)), ((a 1), .inl (cI, 6792, .inl zI0))] sz) := by
  refine Met.ofW (cc := cX12_relation) (maxL := 2) (ret := (some .int)) (by decide) rfl ?_
  intro p e s m args below meth c s₁ B hml hv
  obtain ⟨rfl, hsz, hP, hK, hD0⟩ := hv
  have hx := B.exec
  have hb := B.bytes
  have hr := B.returns
  have hts := atoms_spec (ws := (.code yX12_relation cX12_relation 2 (some .int) :: zT)) B.pre
  have ht : ∀ w ∈ zT, w.before _ s = true := fun w h => hts w (List.mem_cons_of_mem _ h)
  have hown : s.vm.findClass RX12 = some m.cls := findClass_of_methodNamed B.named
  have hlocks := B.notSynchronized
  subst hsz
  have hD := hD0.self (sz := s.heap.size)
  generalize hAe : va_A [((a 0), .inr (12, zMo a zI0)), ((a 1), .inl (cI, 6792, .inl zI0))] s.heap.size = A at hD ⊢
  have hA : ∀ q : Nat, s.heap.size ≤ q → A q := fun q h => by rw [← hAe]; exact Or.inr h
  have hS : va_S A s.heap s.heap [] := va_S.rf
  have hP : va_P D vwCl [((a 0), .inr (12, zMo a zI0)), ((a 1), .inl (cI, 6792, .inl zI0))] s.heap := hP
  have hl := lv_entry ([.ref (a 0), .int p0]) (n := 2) (Nat.le_of_ble_eq_true rfl)
  rw [lg_entry_eq]
  generalize (lg_sl ([.ref (a 0), .int p0]) ++ List.replicate (2 - (lg_sl ([.ref (a 0), .int p0])).length) Slot.unset).toArray = ls at hl ⊢
  have hl : lv_has ls 2 [(0, .ref (a 0)), (1, .int p0)] := hl
  skip
  refine lv_aload_n hx hb dX12_relation_0 rfl (lv_at hl 0 rfl) ?_
  refine lv_iload_n hx hb dX12_relation_1 rfl (lv_at hl 1 rfl) ?_
  refine vp_callSi (va_runS (As := [.int p0]) (rest := [.ref (a 0)]) ⟨hx, hb, hml, hown, ht⟩ (k_X12_isChain l p0) (va_cwS 1 ht (zG_S zw_77 zw_78 zw_2 zw_79) rfl rfl rfl (by decide +kernel) ⟨Nat.le_of_ble_eq_true rfl, Nat.le_of_ble_eq_true rfl⟩) zN_S rfl rfl hl.1 rfl (lv_room (Nat.le_of_ble_eq_true rfl)) dX12_relation_2 ⟨Nat.le_of_ble_eq_true rfl, Nat.le_of_ble_eq_true rfl⟩).run (fun r_1 hw_1 => ?_)
  rcases hw_1 with ⟨rfl, h_1⟩ | ⟨rfl, h_1⟩
  · skip
    have hPc := hP.sub (ws' := [((a 0), .inr (12, zMo a zI0))]) [0] rfl
    have hDc := hD.sub (ws' := [((a 0), .inr (12, zMo a zI0))]) [0] (by decide) rfl
    have hKc := hK.sub (tys' := []) [] rfl
    have hFc := va_free (wc := [((a 0), .inr (12, zMo a zI0))]) hD hS hA [0] rfl
    refine va_calli (va_runV (As := [.int 1]) (rest := []) ⟨hx, hb, hml, hown, ht⟩ (k_X12_lacks l _ D a zI0 1 (by decide)) (cwV 1 ht (zG_V zw_62 zw_63 zw_64 zw_2 zw_65) rfl rfl rfl (by decide +kernel) ⟨Nat.le_of_ble_eq_true rfl, Nat.le_of_ble_eq_true rfl⟩) (zM_V (va_recv hK hP (ci := 12) (q0 := 0) rfl rfl) hPc hKc hDc) rfl rfl hl.1 rfl (lv_room (Nat.le_of_ble_eq_true rfl)) dX12_relation_5 ⟨Nat.le_of_ble_eq_true rfl, Nat.le_of_ble_eq_true rfl⟩) hS (fun q _ h => hFc q h) hFc (fun r_2 u_2 t H1 locs ht0 hvm hw_2 hB hz1 hk1 hS => ?_)
    obtain ⟨rfl, rfl⟩ := hw_2.2 (by decide)
    obtain ⟨hP1, hK1, hD1⟩ := hB
    rw [ht0] at hP1
    have hK1 := va_K.moved hvm.symm hK1
    obtain ⟨hP, hD⟩ := va_join (wr := [((a 1), .inl (cI, 6792, .inl zI0))]) (w1 := [((a 0), .inr (12, zMo a (upd zI0 0 0)))]) hP hD [0] [1] rfl rfl (by decide) (by decide) hk1 hFc hP1 hD1
    generalize H1 = H at hP hS ⊢
    have hP : va_P D vwCl [((a 1), .inl (cI, 6792, .inl zI0)), ((a 0), .inr (12, zMo a (upd zI0 0 0)))] H := hP
    have hD : va_D A [((a 1), .inl (cI, 6792, .inl zI0)), ((a 0), .inr (12, zMo a (upd zI0 0 0)))] := hD
    refine lv_if_eq (tgt := 15) hx hb dX12_relation_8 (by decide) (fun c_3 => ?_) (fun c_3 => ?_)
    · skip
      refine lv_aload_n hx hb dX12_relation_15 rfl (lv_at hl 0 rfl) ?_
      refine lv_iload_n hx hb dX12_relation_16 rfl (lv_at hl 1 rfl) ?_
      refine lv_aload_n hx hb dX12_relation_17 rfl (lv_at hl 0 rfl) ?_
      refine vp_callSi (va_runV (As := []) (rest := [.int p0, .ref (a 0)]) ⟨hx, hb, hml, hown, ht⟩ (k_X12_allOpen l D a (upd zI0 0 0) cI) (cwV 0 ht (zG_V zw_86 zw_87 zw_88 zw_2 zw_89) rfl rfl rfl (by decide +kernel) ⟨Nat.le_of_ble_eq_true rfl, Nat.le_of_ble_eq_true rfl⟩) (zR_V (va_recv hK hP (ci := 12) (q0 := 1) rfl rfl) (hP.sub (ws' := [((a 0), .inr (12, zMo a (upd zI0 0 0))), ((a 1), .inl (cI, 6792, .inl zI0))]) [1, 0] rfl) hK) rfl rfl hl.1 rfl (lv_room (Nat.le_of_ble_eq_true rfl)) dX12_relation_18 ⟨Nat.le_of_ble_eq_true rfl, Nat.le_of_ble_eq_true rfl⟩).run (fun r_4 hw_4 => ?_)
      obtain rfl : r_4 = 0 := hw_4
      refine vp_callSi (va_runV (As := [.int p0, .int 0]) (rest := []) ⟨hx, hb, hml, hown, ht⟩ (k_X12_relationOf l D a (upd zI0 0 0) cI p0 0 h_1) (cwV 2 ht (zG_V zw_55 zw_56 zw_57 zw_2 zw_58) rfl rfl rfl (by decide +kernel) ⟨Nat.le_of_ble_eq_true rfl, Nat.le_of_ble_eq_true rfl⟩) (zR_V (va_recv hK hP (ci := 12) (q0 := 1) rfl rfl) (hP.sub (ws' := [((a 0), .inr (12, zMo a (upd zI0 0 0))), ((a 1), .inl (cI, 6792, .inl zI0))]) [1, 0] rfl) hK) rfl rfl hl.1 rfl (lv_room (Nat.le_of_ble_eq_true rfl)) dX12_relation_21 ⟨Nat.le_of_ble_eq_true rfl, Nat.le_of_ble_eq_true rfl⟩).run (fun r_5 hw_5 => ?_)
      obtain rfl : r_5 = (-1) := hw_5
      have hP9 := hP.sub (ws' := [((a 0), .inr (12, zMo a (upd zI0 0 0)))]) [1] rfl
      have hD9 := hD.sub (ws' := [((a 0), .inr (12, zMo a (upd zI0 0 0)))]) [1] (by decide) rfl
      have hK9 := hK.sub (tys' := []) [] rfl
      refine W.widen (k := 0) (n := 0) (Nat.le_of_ble_eq_true rfl) (Nat.le_of_ble_eq_true rfl) ?_
      exact W.iret (v := (-1)) hx hb hr (fun t ht0 hW => ⟨⟨(-1), upd zI0 0 0, rfl, (show zS_relation p0 0 (-1) from (.inr ⟨rfl, by omega, rfl⟩)), (zE_of hP9 hK9 hD9 ht0 hW)⟩, hS.F ht0⟩) hS.2.2 dX12_relation_24
    · skip
      exact absurd c_3 (by decide)
  · skip
    have hPc := hP.sub (ws' := [((a 0), .inr (12, zMo a zI0))]) [0] rfl
    have hDc := hD.sub (ws' := [((a 0), .inr (12, zMo a zI0))]) [0] (by decide) rfl
    have hKc := hK.sub (tys' := []) [] rfl
    have hFc := va_free (wc := [((a 0), .inr (12, zMo a zI0))]) hD hS hA [0] rfl
    refine va_calli (va_runV (As := [.int 0]) (rest := []) ⟨hx, hb, hml, hown, ht⟩ (k_X12_lacks l _ D a zI0 0 (by decide)) (cwV 1 ht (zG_V zw_62 zw_63 zw_64 zw_2 zw_65) rfl rfl rfl (by decide +kernel) ⟨Nat.le_of_ble_eq_true rfl, Nat.le_of_ble_eq_true rfl⟩) (zM_V (va_recv hK hP (ci := 12) (q0 := 0) rfl rfl) hPc hKc hDc) rfl rfl hl.1 rfl (lv_room (Nat.le_of_ble_eq_true rfl)) dX12_relation_5 ⟨Nat.le_of_ble_eq_true rfl, Nat.le_of_ble_eq_true rfl⟩) hS (fun q _ h => hFc q h) hFc (fun r_6 u_6 t H1 locs ht0 hvm hw_6 hB hz1 hk1 hS => ?_)
    obtain ⟨rfl, rfl⟩ := hw_6.1 rfl
    obtain ⟨hP1, hK1, hD1⟩ := hB
    rw [ht0] at hP1
    have hK1 := va_K.moved hvm.symm hK1
    obtain ⟨hP, hD⟩ := va_join (wr := [((a 1), .inl (cI, 6792, .inl zI0))]) (w1 := [((a 0), .inr (12, zMo a (upd zI0 0 1)))]) hP hD [0] [1] rfl rfl (by decide) (by decide) hk1 hFc hP1 hD1
    generalize H1 = H at hP hS ⊢
    have hP : va_P D vwCl [((a 1), .inl (cI, 6792, .inl zI0)), ((a 0), .inr (12, zMo a (upd zI0 0 1)))] H := hP
    have hD : va_D A [((a 1), .inl (cI, 6792, .inl zI0)), ((a 0), .inr (12, zMo a (upd zI0 0 1)))] := hD
    refine lv_if_eq (tgt := 15) hx hb dX12_relation_8 (by decide) (fun c_7 => ?_) (fun c_7 => ?_)
    · skip
      exact absurd c_7 (by decide)
    · skip
      refine lv_iconst (v := 0) hx hb dX12_relation_11 (by decide) ?_
      refine lv_goto (tgt := 24) hx hb dX12_relation_12 (by decide) ?_
      have hP9 := hP.sub (ws' := [((a 0), .inr (12, zMo a (upd zI0 0 1)))]) [1] rfl
      have hD9 := hD.sub (ws' := [((a 0), .inr (12, zMo a (upd zI0 0 1)))]) [1] (by decide) rfl
      have hK9 := hK.sub (tys' := []) [] rfl
      refine W.widen (k := 0) (n := 0) (Nat.le_of_ble_eq_true rfl) (Nat.le_of_ble_eq_true rfl) ?_
      exact W.iret (v := 0) hx hb hr (fun t ht0 hW => ⟨⟨0, upd zI0 0 1, rfl, (show zS_relation p0 1 0 from (.inl ⟨rfl, by omega⟩)), (zE_of hP9 hK9 hD9 ht0 hW)⟩, hS.F ht0⟩) hS.2.2 dX12_relation_24
set_option maxHeartbeats 4000000 in
set_option maxRecDepth 100000 in
theorem k_X12_stepAt (l : Launch) (sz : Nat) (D : va_G) (a : Nat → Nat) (cI : ClassId) (p0 p1 p2 : Int32) : Met l yX12_stepAt (.code yX12_stepAt cX12_stepAt 4 (some .int) :: zT) ({ frames := 2, cells := 0, slots := 0, locals := 43 }) (va_Pc [.ref (a 0), .int p0, .int p1, .int p2] (zM D [((a 0), .inr (12, zMo a zI0)), ((a 1), .inl (cI, 6792, .inl zI0))] [(cI, .int)] sz)) (va_Qi (fun (r : Int32) (u : Nat → Int32) => zS_stepAt p0 p1 p2 (u 0) r) (fun u t => zE D [(a 0, .inr (12, zMo a u))] [] (va_A [((a 0), .inr (12, zMo a zI0)), ((a 1), .inl (cI, 6792, .inl zI0))] sz) t) (va_A [((a 0), .inr (12, zMo a zI0)), ((a 1), .inl (cI, 6792, .inl zI0))] sz)) 0 0 (va_A [((a 0), .inr (12, zMo a zI0)), ((a 1), .inl (cI, 6792, .inl zI0))] sz) := by
  refine Met.ofW (cc := cX12_stepAt) (maxL := 4) (ret := (some .int)) (by decide) rfl ?_
  intro p e s m args below meth c s₁ B hml hv
  obtain ⟨rfl, hsz, hP, hK, hD0⟩ := hv
  have hx := B.exec
  have hb := B.bytes
  have hr := B.returns
  have hts := atoms_spec (ws := (.code yX12_stepAt cX12_stepAt 4 (some .int) :: zT)) B.pre
  have ht : ∀ w ∈ zT, w.before _ s = true := fun w h => hts w (List.mem_cons_of_mem _ h)
  have hown : s.vm.findClass RX12 = some m.cls := findClass_of_methodNamed B.named
  have hlocks := B.notSynchronized
  subst hsz
  have hD := hD0.self (sz := s.heap.size)
  generalize hAe : va_A [((a 0), .inr (12, zMo a zI0)), ((a 1), .inl (cI, 6792, .inl zI0))] s.heap.size = A at hD ⊢
  have hA : ∀ q : Nat, s.heap.size ≤ q → A q := fun q h => by rw [← hAe]; exact Or.inr h
  have hS : va_S A s.heap s.heap [] := va_S.rf
  have hP : va_P D vwCl [((a 0), .inr (12, zMo a zI0)), ((a 1), .inl (cI, 6792, .inl zI0))] s.heap := hP
  have hl := lv_entry ([.ref (a 0), .int p0, .int p1, .int p2]) (n := 4) (Nat.le_of_ble_eq_true rfl)
  rw [lg_entry_eq]
  generalize (lg_sl ([.ref (a 0), .int p0, .int p1, .int p2]) ++ List.replicate (4 - (lg_sl ([.ref (a 0), .int p0, .int p1, .int p2])).length) Slot.unset).toArray = ls at hl ⊢
  have hl : lv_has ls 4 [(0, .ref (a 0)), (1, .int p0), (2, .int p1), (3, .int p2)] := hl
  skip
  refine lv_aload_n hx hb dX12_stepAt_0 rfl (lv_at hl 0 rfl) ?_
  refine lv_iload_n hx hb dX12_stepAt_1 rfl (lv_at hl 1 rfl) ?_
  refine vp_callSi (va_runS (As := [.int p0]) (rest := [.ref (a 0)]) ⟨hx, hb, hml, hown, ht⟩ (k_X12_isChain l p0) (va_cwS 1 ht (zG_S zw_77 zw_78 zw_2 zw_79) rfl rfl rfl (by decide +kernel) ⟨Nat.le_of_ble_eq_true rfl, Nat.le_of_ble_eq_true rfl⟩) zN_S rfl rfl hl.1 rfl (lv_room (Nat.le_of_ble_eq_true rfl)) dX12_stepAt_2 ⟨Nat.le_of_ble_eq_true rfl, Nat.le_of_ble_eq_true rfl⟩).run (fun r_1 hw_1 => ?_)
  rcases hw_1 with ⟨rfl, h_1⟩ | ⟨rfl, h_1⟩
  · skip
    have hPc := hP.sub (ws' := [((a 0), .inr (12, zMo a zI0))]) [0] rfl
    have hDc := hD.sub (ws' := [((a 0), .inr (12, zMo a zI0))]) [0] (by decide) rfl
    have hKc := hK.sub (tys' := []) [] rfl
    have hFc := va_free (wc := [((a 0), .inr (12, zMo a zI0))]) hD hS hA [0] rfl
    refine va_calli (va_runV (As := [.int 1]) (rest := []) ⟨hx, hb, hml, hown, ht⟩ (k_X12_lacks l _ D a zI0 1 (by decide)) (cwV 1 ht (zG_V zw_62 zw_63 zw_64 zw_2 zw_65) rfl rfl rfl (by decide +kernel) ⟨Nat.le_of_ble_eq_true rfl, Nat.le_of_ble_eq_true rfl⟩) (zM_V (va_recv hK hP (ci := 12) (q0 := 0) rfl rfl) hPc hKc hDc) rfl rfl hl.1 rfl (lv_room (Nat.le_of_ble_eq_true rfl)) dX12_stepAt_5 ⟨Nat.le_of_ble_eq_true rfl, Nat.le_of_ble_eq_true rfl⟩) hS (fun q _ h => hFc q h) hFc (fun r_2 u_2 t H1 locs ht0 hvm hw_2 hB hz1 hk1 hS => ?_)
    obtain ⟨rfl, rfl⟩ := hw_2.2 (by decide)
    obtain ⟨hP1, hK1, hD1⟩ := hB
    rw [ht0] at hP1
    have hK1 := va_K.moved hvm.symm hK1
    obtain ⟨hP, hD⟩ := va_join (wr := [((a 1), .inl (cI, 6792, .inl zI0))]) (w1 := [((a 0), .inr (12, zMo a (upd zI0 0 0)))]) hP hD [0] [1] rfl rfl (by decide) (by decide) hk1 hFc hP1 hD1
    generalize H1 = H at hP hS ⊢
    have hP : va_P D vwCl [((a 1), .inl (cI, 6792, .inl zI0)), ((a 0), .inr (12, zMo a (upd zI0 0 0)))] H := hP
    have hD : va_D A [((a 1), .inl (cI, 6792, .inl zI0)), ((a 0), .inr (12, zMo a (upd zI0 0 0)))] := hD
    refine lv_if_ne (tgt := 45) hx hb dX12_stepAt_8 (by decide) (fun c_3 => ?_) (fun c_3 => ?_)
    · skip
      exact absurd c_3 (by decide)
    · skip
      refine lv_aload_n hx hb dX12_stepAt_11 rfl (lv_at hl 0 rfl) ?_
      refine lv_iload_n hx hb dX12_stepAt_12 rfl (lv_at hl 2 rfl) ?_
      refine lv_iconst (v := 1) hx hb dX12_stepAt_13 (by decide) ?_
      refine lv_aload_n hx hb dX12_stepAt_14 rfl (lv_at hl 0 rfl) ?_
      refine lv_iload_n hx hb dX12_stepAt_15 rfl (lv_at hl 1 rfl) ?_
      refine vp_callSi (va_runV (As := [.int p0]) (rest := [.int 1, .int p1, .ref (a 0)]) ⟨hx, hb, hml, hown, ht⟩ (k_X12_linesOf l D a (upd zI0 0 0) cI p0 h_1) (cwV 1 ht (zG_V zw_47 zw_48 zw_49 zw_2 zw_50) rfl rfl rfl (by decide +kernel) ⟨Nat.le_of_ble_eq_true rfl, Nat.le_of_ble_eq_true rfl⟩) (zR_V (va_recv hK hP (ci := 12) (q0 := 1) rfl rfl) (hP.sub (ws' := [((a 0), .inr (12, zMo a (upd zI0 0 0))), ((a 1), .inl (cI, 6792, .inl zI0))]) [1, 0] rfl) hK) rfl rfl hl.1 rfl (lv_room (Nat.le_of_ble_eq_true rfl)) dX12_stepAt_16 ⟨Nat.le_of_ble_eq_true rfl, Nat.le_of_ble_eq_true rfl⟩).run (fun r_4 hw_4 => ?_)
      obtain rfl : r_4 = 0 := hw_4
      refine lv_iconst (v := 1) hx hb dX12_stepAt_19 (by decide) ?_
      refine lv_isub hx hb dX12_stepAt_20 ?_
      refine lv_topi (fun x_5 e_5 => ?_)
      obtain rfl : x_5 = (-1) := e_5.trans (by decide)
      refine vp_callSi (va_runS (As := [.int p1, .int 1, .int (-1)]) (rest := [.ref (a 0)]) ⟨hx, hb, hml, hown, ht⟩ (k_X12_in l p1 1 (-1)) (va_cwS 3 ht (zG_S zw_0 zw_1 zw_2 zw_3) rfl rfl rfl (by decide +kernel) ⟨Nat.le_of_ble_eq_true rfl, Nat.le_of_ble_eq_true rfl⟩) zN_S rfl rfl hl.1 rfl (lv_room (Nat.le_of_ble_eq_true rfl)) dX12_stepAt_21 ⟨Nat.le_of_ble_eq_true rfl, Nat.le_of_ble_eq_true rfl⟩).run (fun r_6 hw_6 => ?_)
      rcases hw_6 with ⟨rfl, h_6⟩ | ⟨rfl, h_6⟩
      · skip
        simp only [Int32.reduceToInt] at h_6
        exfalso; omega
      · skip
        simp only [Int32.reduceToInt] at h_6
        refine lv_iconst (v := 1) hx hb dX12_stepAt_24 (by decide) ?_
        have hPc := hP.sub (ws' := [((a 0), .inr (12, zMo a (upd zI0 0 0)))]) [1] rfl
        have hDc := hD.sub (ws' := [((a 0), .inr (12, zMo a (upd zI0 0 0)))]) [1] (by decide) rfl
        have hKc := hK.sub (tys' := []) [] rfl
        have hFc := va_free (wc := [((a 0), .inr (12, zMo a (upd zI0 0 0)))]) hD hS hA [1] rfl
        refine va_calli (va_runV (As := [.int 0, .int 1]) (rest := []) ⟨hx, hb, hml, hown, ht⟩ (k_X12_no l _ D a (upd zI0 0 0) 0 1 (by decide)) (cwV 2 ht (zG_V zw_30 zw_31 zw_32 zw_2 zw_33) rfl rfl rfl (by decide +kernel) ⟨Nat.le_of_ble_eq_true rfl, Nat.le_of_ble_eq_true rfl⟩) (zM_V (va_recv hK hP (ci := 12) (q0 := 1) rfl rfl) hPc hKc hDc) rfl rfl hl.1 rfl (lv_room (Nat.le_of_ble_eq_true rfl)) dX12_stepAt_25 ⟨Nat.le_of_ble_eq_true rfl, Nat.le_of_ble_eq_true rfl⟩) hS (fun q _ h => hFc q h) hFc (fun r_7 u_7 t H1 locs ht0 hvm hw_7 hB hz1 hk1 hS => ?_)
        obtain ⟨rfl, rfl⟩ := hw_7.1 rfl
        obtain ⟨hP1, hK1, hD1⟩ := hB
        rw [ht0] at hP1
        have hK1 := va_K.moved hvm.symm hK1
        obtain ⟨hP, hD⟩ := va_join (wr := [((a 1), .inl (cI, 6792, .inl zI0))]) (w1 := [((a 0), .inr (12, zMo a (upd zI0 0 1)))]) hP hD [1] [0] rfl rfl (by decide) (by decide) hk1 hFc hP1 hD1
        generalize H1 = H at hP hS ⊢
        have hP : va_P D vwCl [((a 1), .inl (cI, 6792, .inl zI0)), ((a 0), .inr (12, zMo a (upd zI0 0 1)))] H := hP
        have hD : va_D A [((a 1), .inl (cI, 6792, .inl zI0)), ((a 0), .inr (12, zMo a (upd zI0 0 1)))] := hD
        refine lv_if_ne (tgt := 45) hx hb dX12_stepAt_28 (by decide) (fun c_8 => ?_) (fun c_8 => ?_)
        · skip
          refine lv_iconst (v := 0) hx hb dX12_stepAt_45 (by decide) ?_
          have hP9 := hP.sub (ws' := [((a 0), .inr (12, zMo a (upd zI0 0 1)))]) [1] rfl
          have hD9 := hD.sub (ws' := [((a 0), .inr (12, zMo a (upd zI0 0 1)))]) [1] (by decide) rfl
          have hK9 := hK.sub (tys' := []) [] rfl
          refine W.widen (k := 0) (n := 0) (Nat.le_of_ble_eq_true rfl) (Nat.le_of_ble_eq_true rfl) ?_
          exact W.iret (v := 0) hx hb hr (fun t ht0 hW => ⟨⟨0, upd zI0 0 1, rfl, (show zS_stepAt p0 p1 p2 1 0 from ⟨rfl, by trivial⟩), (zE_of hP9 hK9 hD9 ht0 hW)⟩, hS.F ht0⟩) hS.2.2 dX12_stepAt_46
        · skip
          exact absurd c_8 (by decide)
  · skip
    have hPc := hP.sub (ws' := [((a 0), .inr (12, zMo a zI0))]) [0] rfl
    have hDc := hD.sub (ws' := [((a 0), .inr (12, zMo a zI0))]) [0] (by decide) rfl
    have hKc := hK.sub (tys' := []) [] rfl
    have hFc := va_free (wc := [((a 0), .inr (12, zMo a zI0))]) hD hS hA [0] rfl
    refine va_calli (va_runV (As := [.int 0]) (rest := []) ⟨hx, hb, hml, hown, ht⟩ (k_X12_lacks l _ D a zI0 0 (by decide)) (cwV 1 ht (zG_V zw_62 zw_63 zw_64 zw_2 zw_65) rfl rfl rfl (by decide +kernel) ⟨Nat.le_of_ble_eq_true rfl, Nat.le_of_ble_eq_true rfl⟩) (zM_V (va_recv hK hP (ci := 12) (q0 := 0) rfl rfl) hPc hKc hDc) rfl rfl hl.1 rfl (lv_room (Nat.le_of_ble_eq_true rfl)) dX12_stepAt_5 ⟨Nat.le_of_ble_eq_true rfl, Nat.le_of_ble_eq_true rfl⟩) hS (fun q _ h => hFc q h) hFc (fun r_9 u_9 t H1 locs ht0 hvm hw_9 hB hz1 hk1 hS => ?_)
    obtain ⟨rfl, rfl⟩ := hw_9.1 rfl
    obtain ⟨hP1, hK1, hD1⟩ := hB
    rw [ht0] at hP1
    have hK1 := va_K.moved hvm.symm hK1
    obtain ⟨hP, hD⟩ := va_join (wr := [((a 1), .inl (cI, 6792, .inl zI0))]) (w1 := [((a 0), .inr (12, zMo a (upd zI0 0 1)))]) hP hD [0] [1] rfl rfl (by decide) (by decide) hk1 hFc hP1 hD1
    generalize H1 = H at hP hS ⊢
    have hP : va_P D vwCl [((a 1), .inl (cI, 6792, .inl zI0)), ((a 0), .inr (12, zMo a (upd zI0 0 1)))] H := hP
    have hD : va_D A [((a 1), .inl (cI, 6792, .inl zI0)), ((a 0), .inr (12, zMo a (upd zI0 0 1)))] := hD
    refine lv_if_ne (tgt := 45) hx hb dX12_stepAt_8 (by decide) (fun c_10 => ?_) (fun c_10 => ?_)
    · skip
      refine lv_iconst (v := 0) hx hb dX12_stepAt_45 (by decide) ?_
      have hP9 := hP.sub (ws' := [((a 0), .inr (12, zMo a (upd zI0 0 1)))]) [1] rfl
      have hD9 := hD.sub (ws' := [((a 0), .inr (12, zMo a (upd zI0 0 1)))]) [1] (by decide) rfl
      have hK9 := hK.sub (tys' := []) [] rfl
      refine W.widen (k := 0) (n := 0) (Nat.le_of_ble_eq_true rfl) (Nat.le_of_ble_eq_true rfl) ?_
      exact W.iret (v := 0) hx hb hr (fun t ht0 hW => ⟨⟨0, upd zI0 0 1, rfl, (show zS_stepAt p0 p1 p2 1 0 from ⟨rfl, by trivial⟩), (zE_of hP9 hK9 hD9 ht0 hW)⟩, hS.F ht0⟩) hS.2.2 dX12_stepAt_46
    · skip
      exact absurd c_10 (by decide)
set_option maxHeartbeats 4000000 in
set_option maxRecDepth 100000 in
theorem k_X12_fails (l : Launch) (sz : Nat) (D : va_G) (a : Nat → Nat) (cI : ClassId) (p0 p1 p2 p3 : Int32) : Met l yX12_fails (.code yX12_fails cX12_fails 6 (some .int) :: zT) ({ frames := 2, cells := 0, slots := 0, locals := 43 }) (va_Pc [.ref (a 0), .int p0, .int p1, .int p2, .int p3] (zM D [((a 0), .inr (12, zMo a zI0)), ((a 1), .inl (cI, 6792, .inl zI0))] [(cI, .int)] sz)) (va_Qi (fun (r : Int32) (u : Nat → Int32) => zS_fails p0 p1 p2 p3 (u 0) r) (fun u t => zE D [(a 0, .inr (12, zMo a u))] [] (va_A [((a 0), .inr (12, zMo a zI0)), ((a 1), .inl (cI, 6792, .inl zI0))] sz) t) (va_A [((a 0), .inr (12, zMo a zI0)), ((a 1), .inl (cI, 6792, .inl zI0))] sz)) 0 0 (va_A [((a 0), .inr (12, zMo a zI0)), ((a 1), .inl (cI, 6792, .inl zI0))] sz) := by
  refine Met.ofW (cc := cX12_fails) (maxL := 6) (ret := (some .int)) (by decide) rfl ?_
  intro p e s m args below meth c s₁ B hml hv
  obtain ⟨rfl, hsz, hP, hK, hD0⟩ := hv
  have hx := B.exec
  have hb := B.bytes
  have hr := B.returns
  have hts := atoms_spec (ws := (.code yX12_fails cX12_fails 6 (some .int) :: zT)) B.pre
  have ht : ∀ w ∈ zT, w.before _ s = true := fun w h => hts w (List.mem_cons_of_mem _ h)
  have hown : s.vm.findClass RX12 = some m.cls := findClass_of_methodNamed B.named
  have hlocks := B.notSynchronized
  subst hsz
  have hD := hD0.self (sz := s.heap.size)
  generalize hAe : va_A [((a 0), .inr (12, zMo a zI0)), ((a 1), .inl (cI, 6792, .inl zI0))] s.heap.size = A at hD ⊢
  have hA : ∀ q : Nat, s.heap.size ≤ q → A q := fun q h => by rw [← hAe]; exact Or.inr h
  have hS : va_S A s.heap s.heap [] := va_S.rf
  have hP : va_P D vwCl [((a 0), .inr (12, zMo a zI0)), ((a 1), .inl (cI, 6792, .inl zI0))] s.heap := hP
  have hl := lv_entry ([.ref (a 0), .int p0, .int p1, .int p2, .int p3]) (n := 6) (Nat.le_of_ble_eq_true rfl)
  rw [lg_entry_eq]
  generalize (lg_sl ([.ref (a 0), .int p0, .int p1, .int p2, .int p3]) ++ List.replicate (6 - (lg_sl ([.ref (a 0), .int p0, .int p1, .int p2, .int p3])).length) Slot.unset).toArray = ls at hl ⊢
  have hl : lv_has ls 6 [(0, .ref (a 0)), (1, .int p0), (2, .int p1), (3, .int p2), (4, .int p3)] := hl
  skip
  refine lv_aload_n hx hb dX12_fails_0 rfl (lv_at hl 0 rfl) ?_
  refine lv_iload_n hx hb dX12_fails_1 rfl (lv_at hl 1 rfl) ?_
  refine vp_callSi (va_runS (As := [.int p0]) (rest := [.ref (a 0)]) ⟨hx, hb, hml, hown, ht⟩ (k_X12_isRegister l p0) (va_cwS 1 ht (zG_S zw_59 zw_60 zw_2 zw_61) rfl rfl rfl (by decide +kernel) ⟨Nat.le_of_ble_eq_true rfl, Nat.le_of_ble_eq_true rfl⟩) zN_S rfl rfl hl.1 rfl (lv_room (Nat.le_of_ble_eq_true rfl)) dX12_fails_2 ⟨Nat.le_of_ble_eq_true rfl, Nat.le_of_ble_eq_true rfl⟩).run (fun r_1 hw_1 => ?_)
  rcases hw_1 with ⟨rfl, h_1⟩ | ⟨rfl, h_1⟩
  · skip
    refine lv_if_eq (tgt := 19) hx hb dX12_fails_5 (by decide) (fun c_2 => ?_) (fun c_2 => ?_)
    · skip
      exact absurd c_2 (by decide)
    · skip
      refine lv_iload_n hx hb dX12_fails_8 rfl (lv_at hl 3 rfl) ?_
      refine vp_callSi (va_runS (As := [.int p2]) (rest := [.ref (a 0)]) ⟨hx, hb, hml, hown, ht⟩ (k_X12_isRegister l p2) (va_cwS 1 ht (zG_S zw_59 zw_60 zw_2 zw_61) rfl rfl rfl (by decide +kernel) ⟨Nat.le_of_ble_eq_true rfl, Nat.le_of_ble_eq_true rfl⟩) zN_S rfl rfl hl.1 rfl (lv_room (Nat.le_of_ble_eq_true rfl)) dX12_fails_9 ⟨Nat.le_of_ble_eq_true rfl, Nat.le_of_ble_eq_true rfl⟩).run (fun r_3 hw_3 => ?_)
      rcases hw_3 with ⟨rfl, h_3⟩ | ⟨rfl, h_3⟩
      · skip
        refine lv_if_eq (tgt := 19) hx hb dX12_fails_12 (by decide) (fun c_4 => ?_) (fun c_4 => ?_)
        · skip
          exact absurd c_4 (by decide)
        · skip
          refine lv_iconst (v := 1) hx hb dX12_fails_15 (by decide) ?_
          refine lv_goto (tgt := 20) hx hb dX12_fails_16 (by decide) ?_
          have hPc := hP.sub (ws' := [((a 0), .inr (12, zMo a zI0))]) [0] rfl
          have hDc := hD.sub (ws' := [((a 0), .inr (12, zMo a zI0))]) [0] (by decide) rfl
          have hKc := hK.sub (tys' := []) [] rfl
          have hFc := va_free (wc := [((a 0), .inr (12, zMo a zI0))]) hD hS hA [0] rfl
          refine va_calli (va_runV (As := [.int 1]) (rest := []) ⟨hx, hb, hml, hown, ht⟩ (k_X12_lacks l _ D a zI0 1 (by decide)) (cwV 1 ht (zG_V zw_62 zw_63 zw_64 zw_2 zw_65) rfl rfl rfl (by decide +kernel) ⟨Nat.le_of_ble_eq_true rfl, Nat.le_of_ble_eq_true rfl⟩) (zM_V (va_recv hK hP (ci := 12) (q0 := 0) rfl rfl) hPc hKc hDc) rfl rfl hl.1 rfl (lv_room (Nat.le_of_ble_eq_true rfl)) dX12_fails_20 ⟨Nat.le_of_ble_eq_true rfl, Nat.le_of_ble_eq_true rfl⟩) hS (fun q _ h => hFc q h) hFc (fun r_5 u_5 t H1 locs ht0 hvm hw_5 hB hz1 hk1 hS => ?_)
          obtain ⟨rfl, rfl⟩ := hw_5.2 (by decide)
          obtain ⟨hP1, hK1, hD1⟩ := hB
          rw [ht0] at hP1
          have hK1 := va_K.moved hvm.symm hK1
          obtain ⟨hP, hD⟩ := va_join (wr := [((a 1), .inl (cI, 6792, .inl zI0))]) (w1 := [((a 0), .inr (12, zMo a (upd zI0 0 0)))]) hP hD [0] [1] rfl rfl (by decide) (by decide) hk1 hFc hP1 hD1
          generalize H1 = H at hP hS ⊢
          have hP : va_P D vwCl [((a 1), .inl (cI, 6792, .inl zI0)), ((a 0), .inr (12, zMo a (upd zI0 0 0)))] H := hP
          have hD : va_D A [((a 1), .inl (cI, 6792, .inl zI0)), ((a 0), .inr (12, zMo a (upd zI0 0 0)))] := hD
          refine lv_if_ne (tgt := 89) hx hb dX12_fails_23 (by decide) (fun c_6 => ?_) (fun c_6 => ?_)
          · skip
            exact absurd c_6 (by decide)
          · skip
            refine lv_aload_n hx hb dX12_fails_26 rfl (lv_at hl 0 rfl) ?_
            refine lv_aload_n hx hb dX12_fails_27 rfl (lv_at hl 0 rfl) ?_
            refine lv_iload_n hx hb dX12_fails_28 rfl (lv_at hl 1 rfl) ?_
            refine vp_callSi (va_runV (As := [.int p0]) (rest := [.ref (a 0)]) ⟨hx, hb, hml, hown, ht⟩ (k_X12_isFull l D a (upd zI0 0 0) cI p0 h_1) (cwV 1 ht (zG_V zw_69 zw_70 zw_71 zw_2 zw_72) rfl rfl rfl (by decide +kernel) ⟨Nat.le_of_ble_eq_true rfl, Nat.le_of_ble_eq_true rfl⟩) (zR_V (va_recv hK hP (ci := 12) (q0 := 1) rfl rfl) (hP.sub (ws' := [((a 0), .inr (12, zMo a (upd zI0 0 0))), ((a 1), .inl (cI, 6792, .inl zI0))]) [1, 0] rfl) hK) rfl rfl hl.1 rfl (lv_room (Nat.le_of_ble_eq_true rfl)) dX12_fails_29 ⟨Nat.le_of_ble_eq_true rfl, Nat.le_of_ble_eq_true rfl⟩).run (fun r_7 hw_7 => ?_)
            obtain rfl : r_7 = 0 := hw_7
            refine lv_if_eq (tgt := 47) hx hb dX12_fails_32 (by decide) (fun c_8 => ?_) (fun c_8 => ?_)
            · skip
              refine lv_iconst (v := 0) hx hb dX12_fails_47 (by decide) ?_
              refine lv_iconst (v := 2) hx hb dX12_fails_48 (by decide) ?_
              have hPc := hP.sub (ws' := [((a 0), .inr (12, zMo a (upd zI0 0 0)))]) [1] rfl
              have hDc := hD.sub (ws' := [((a 0), .inr (12, zMo a (upd zI0 0 0)))]) [1] (by decide) rfl
              have hKc := hK.sub (tys' := []) [] rfl
              have hFc := va_free (wc := [((a 0), .inr (12, zMo a (upd zI0 0 0)))]) hD hS hA [1] rfl
              refine va_calli (va_runV (As := [.int 0, .int 2]) (rest := []) ⟨hx, hb, hml, hown, ht⟩ (k_X12_no l _ D a (upd zI0 0 0) 0 2 (by decide)) (cwV 2 ht (zG_V zw_30 zw_31 zw_32 zw_2 zw_33) rfl rfl rfl (by decide +kernel) ⟨Nat.le_of_ble_eq_true rfl, Nat.le_of_ble_eq_true rfl⟩) (zM_V (va_recv hK hP (ci := 12) (q0 := 1) rfl rfl) hPc hKc hDc) rfl rfl hl.1 rfl (lv_room (Nat.le_of_ble_eq_true rfl)) dX12_fails_49 ⟨Nat.le_of_ble_eq_true rfl, Nat.le_of_ble_eq_true rfl⟩) hS (fun q _ h => hFc q h) hFc (fun r_9 u_9 t H1 locs ht0 hvm hw_9 hB hz1 hk1 hS => ?_)
              obtain ⟨rfl, rfl⟩ := hw_9.1 rfl
              obtain ⟨hP1, hK1, hD1⟩ := hB
              rw [ht0] at hP1
              have hK1 := va_K.moved hvm.symm hK1
              obtain ⟨hP, hD⟩ := va_join (wr := [((a 1), .inl (cI, 6792, .inl zI0))]) (w1 := [((a 0), .inr (12, zMo a (upd zI0 0 2)))]) hP hD [1] [0] rfl rfl (by decide) (by decide) hk1 hFc hP1 hD1
              generalize H1 = H at hP hS ⊢
              have hP : va_P D vwCl [((a 1), .inl (cI, 6792, .inl zI0)), ((a 0), .inr (12, zMo a (upd zI0 0 2)))] H := hP
              have hD : va_D A [((a 1), .inl (cI, 6792, .inl zI0)), ((a 0), .inr (12, zMo a (upd zI0 0 2)))] := hD
              refine lv_if_ne (tgt := 89) hx hb dX12_fails_52 (by decide) (fun c_10 => ?_) (fun c_10 => ?_)
              · skip
                refine lv_iconst (v := 0) hx hb dX12_fails_89 (by decide) ?_
                have hP9 := hP.sub (ws' := [((a 0), .inr (12, zMo a (upd zI0 0 2)))]) [1] rfl
                have hD9 := hD.sub (ws' := [((a 0), .inr (12, zMo a (upd zI0 0 2)))]) [1] (by decide) rfl
                have hK9 := hK.sub (tys' := []) [] rfl
                refine W.widen (k := 0) (n := 0) (Nat.le_of_ble_eq_true rfl) (Nat.le_of_ble_eq_true rfl) ?_
                exact W.iret (v := 0) hx hb hr (fun t ht0 hW => ⟨⟨0, upd zI0 0 2, rfl, (show zS_fails p0 p1 p2 p3 2 0 from (.inr ⟨rfl, by omega⟩)), (zE_of hP9 hK9 hD9 ht0 hW)⟩, hS.F ht0⟩) hS.2.2 dX12_fails_90
              · skip
                exact absurd c_10 (by decide)
            · skip
              exact absurd c_8 (by decide)
      · skip
        refine lv_if_eq (tgt := 19) hx hb dX12_fails_12 (by decide) (fun c_11 => ?_) (fun c_11 => ?_)
        · skip
          refine lv_iconst (v := 0) hx hb dX12_fails_19 (by decide) ?_
          have hPc := hP.sub (ws' := [((a 0), .inr (12, zMo a zI0))]) [0] rfl
          have hDc := hD.sub (ws' := [((a 0), .inr (12, zMo a zI0))]) [0] (by decide) rfl
          have hKc := hK.sub (tys' := []) [] rfl
          have hFc := va_free (wc := [((a 0), .inr (12, zMo a zI0))]) hD hS hA [0] rfl
          refine va_calli (va_runV (As := [.int 0]) (rest := []) ⟨hx, hb, hml, hown, ht⟩ (k_X12_lacks l _ D a zI0 0 (by decide)) (cwV 1 ht (zG_V zw_62 zw_63 zw_64 zw_2 zw_65) rfl rfl rfl (by decide +kernel) ⟨Nat.le_of_ble_eq_true rfl, Nat.le_of_ble_eq_true rfl⟩) (zM_V (va_recv hK hP (ci := 12) (q0 := 0) rfl rfl) hPc hKc hDc) rfl rfl hl.1 rfl (lv_room (Nat.le_of_ble_eq_true rfl)) dX12_fails_20 ⟨Nat.le_of_ble_eq_true rfl, Nat.le_of_ble_eq_true rfl⟩) hS (fun q _ h => hFc q h) hFc (fun r_12 u_12 t H1 locs ht0 hvm hw_12 hB hz1 hk1 hS => ?_)
          obtain ⟨rfl, rfl⟩ := hw_12.1 rfl
          obtain ⟨hP1, hK1, hD1⟩ := hB
          rw [ht0] at hP1
          have hK1 := va_K.moved hvm.symm hK1
          obtain ⟨hP, hD⟩ := va_join (wr := [((a 1), .inl (cI, 6792, .inl zI0))]) (w1 := [((a 0), .inr (12, zMo a (upd zI0 0 1)))]) hP hD [0] [1] rfl rfl (by decide) (by decide) hk1 hFc hP1 hD1
          generalize H1 = H at hP hS ⊢
          have hP : va_P D vwCl [((a 1), .inl (cI, 6792, .inl zI0)), ((a 0), .inr (12, zMo a (upd zI0 0 1)))] H := hP
          have hD : va_D A [((a 1), .inl (cI, 6792, .inl zI0)), ((a 0), .inr (12, zMo a (upd zI0 0 1)))] := hD
          refine lv_if_ne (tgt := 89) hx hb dX12_fails_23 (by decide) (fun c_13 => ?_) (fun c_13 => ?_)
          · skip
            refine lv_iconst (v := 0) hx hb dX12_fails_89 (by decide) ?_
            have hP9 := hP.sub (ws' := [((a 0), .inr (12, zMo a (upd zI0 0 1)))]) [1] rfl
            have hD9 := hD.sub (ws' := [((a 0), .inr (12, zMo a (upd zI0 0 1)))]) [1] (by decide) rfl
            have hK9 := hK.sub (tys' := []) [] rfl
            refine W.widen (k := 0) (n := 0) (Nat.le_of_ble_eq_true rfl) (Nat.le_of_ble_eq_true rfl) ?_
            exact W.iret (v := 0) hx hb hr (fun t ht0 hW => ⟨⟨0, upd zI0 0 1, rfl, (show zS_fails p0 p1 p2 p3 1 0 from (.inl ⟨rfl, by omega⟩)), (zE_of hP9 hK9 hD9 ht0 hW)⟩, hS.F ht0⟩) hS.2.2 dX12_fails_90
          · skip
            exact absurd c_13 (by decide)
        · skip
          exact absurd c_11 (by decide)
  · skip
    refine lv_if_eq (tgt := 19) hx hb dX12_fails_5 (by decide) (fun c_14 => ?_) (fun c_14 => ?_)
    · skip
      refine lv_iconst (v := 0) hx hb dX12_fails_19 (by decide) ?_
      have hPc := hP.sub (ws' := [((a 0), .inr (12, zMo a zI0))]) [0] rfl
      have hDc := hD.sub (ws' := [((a 0), .inr (12, zMo a zI0))]) [0] (by decide) rfl
      have hKc := hK.sub (tys' := []) [] rfl
      have hFc := va_free (wc := [((a 0), .inr (12, zMo a zI0))]) hD hS hA [0] rfl
      refine va_calli (va_runV (As := [.int 0]) (rest := []) ⟨hx, hb, hml, hown, ht⟩ (k_X12_lacks l _ D a zI0 0 (by decide)) (cwV 1 ht (zG_V zw_62 zw_63 zw_64 zw_2 zw_65) rfl rfl rfl (by decide +kernel) ⟨Nat.le_of_ble_eq_true rfl, Nat.le_of_ble_eq_true rfl⟩) (zM_V (va_recv hK hP (ci := 12) (q0 := 0) rfl rfl) hPc hKc hDc) rfl rfl hl.1 rfl (lv_room (Nat.le_of_ble_eq_true rfl)) dX12_fails_20 ⟨Nat.le_of_ble_eq_true rfl, Nat.le_of_ble_eq_true rfl⟩) hS (fun q _ h => hFc q h) hFc (fun r_15 u_15 t H1 locs ht0 hvm hw_15 hB hz1 hk1 hS => ?_)
      obtain ⟨rfl, rfl⟩ := hw_15.1 rfl
      obtain ⟨hP1, hK1, hD1⟩ := hB
      rw [ht0] at hP1
      have hK1 := va_K.moved hvm.symm hK1
      obtain ⟨hP, hD⟩ := va_join (wr := [((a 1), .inl (cI, 6792, .inl zI0))]) (w1 := [((a 0), .inr (12, zMo a (upd zI0 0 1)))]) hP hD [0] [1] rfl rfl (by decide) (by decide) hk1 hFc hP1 hD1
      generalize H1 = H at hP hS ⊢
      have hP : va_P D vwCl [((a 1), .inl (cI, 6792, .inl zI0)), ((a 0), .inr (12, zMo a (upd zI0 0 1)))] H := hP
      have hD : va_D A [((a 1), .inl (cI, 6792, .inl zI0)), ((a 0), .inr (12, zMo a (upd zI0 0 1)))] := hD
      refine lv_if_ne (tgt := 89) hx hb dX12_fails_23 (by decide) (fun c_16 => ?_) (fun c_16 => ?_)
      · skip
        refine lv_iconst (v := 0) hx hb dX12_fails_89 (by decide) ?_
        have hP9 := hP.sub (ws' := [((a 0), .inr (12, zMo a (upd zI0 0 1)))]) [1] rfl
        have hD9 := hD.sub (ws' := [((a 0), .inr (12, zMo a (upd zI0 0 1)))]) [1] (by decide) rfl
        have hK9 := hK.sub (tys' := []) [] rfl
        refine W.widen (k := 0) (n := 0) (Nat.le_of_ble_eq_true rfl) (Nat.le_of_ble_eq_true rfl) ?_
        exact W.iret (v := 0) hx hb hr (fun t ht0 hW => ⟨⟨0, upd zI0 0 1, rfl, (show zS_fails p0 p1 p2 p3 1 0 from (.inl ⟨rfl, by omega⟩)), (zE_of hP9 hK9 hD9 ht0 hW)⟩, hS.F ht0⟩) hS.2.2 dX12_fails_90
      · skip
        exact absurd c_16 (by decide)
    · skip
      exact absurd c_14 (by decide)
set_option maxHeartbeats 4000000 in
set_option maxRecDepth 100000 in
theorem k_X12_value (l : Launch) (sz : Nat) (D : va_G) (a : Nat → Nat) (cI : ClassId) (p0 p1 p2 : Int32) : Met l yX12_value (.code yX12_value cX12_value 4 (some .int) :: zT) ({ frames := 2, cells := 0, slots := 0, locals := 43 }) (va_Pc [.ref (a 0), .int p0, .int p1, .int p2] (zM D [((a 0), .inr (12, zMo a zI0)), ((a 1), .inl (cI, 6792, .inl zI0))] [(cI, .int)] sz)) (va_Qi (fun (r : Int32) (u : Nat → Int32) => zS_value p0 p1 p2 (u 0) r) (fun u t => zE D [(a 0, .inr (12, zMo a u))] [] (va_A [((a 0), .inr (12, zMo a zI0)), ((a 1), .inl (cI, 6792, .inl zI0))] sz) t) (va_A [((a 0), .inr (12, zMo a zI0)), ((a 1), .inl (cI, 6792, .inl zI0))] sz)) 0 0 (va_A [((a 0), .inr (12, zMo a zI0)), ((a 1), .inl (cI, 6792, .inl zI0))] sz) := by
  refine Met.ofW (cc := cX12_value) (maxL := 4) (ret := (some .int)) (by decide) rfl ?_
  intro p e s m args below meth c s₁ B hml hv
  obtain ⟨rfl, hsz, hP, hK, hD0⟩ := hv
  have hx := B.exec
  have hb := B.bytes
  have hr := B.returns
  have hts := atoms_spec (ws := (.code yX12_value cX12_value 4 (some .int) :: zT)) B.pre
  have ht : ∀ w ∈ zT, w.before _ s = true := fun w h => hts w (List.mem_cons_of_mem _ h)
  have hown : s.vm.findClass RX12 = some m.cls := findClass_of_methodNamed B.named
  have hlocks := B.notSynchronized
  subst hsz
  have hD := hD0.self (sz := s.heap.size)
  generalize hAe : va_A [((a 0), .inr (12, zMo a zI0)), ((a 1), .inl (cI, 6792, .inl zI0))] s.heap.size = A at hD ⊢
  have hA : ∀ q : Nat, s.heap.size ≤ q → A q := fun q h => by rw [← hAe]; exact Or.inr h
  have hS : va_S A s.heap s.heap [] := va_S.rf
  have hP : va_P D vwCl [((a 0), .inr (12, zMo a zI0)), ((a 1), .inl (cI, 6792, .inl zI0))] s.heap := hP
  have hl := lv_entry ([.ref (a 0), .int p0, .int p1, .int p2]) (n := 4) (Nat.le_of_ble_eq_true rfl)
  rw [lg_entry_eq]
  generalize (lg_sl ([.ref (a 0), .int p0, .int p1, .int p2]) ++ List.replicate (4 - (lg_sl ([.ref (a 0), .int p0, .int p1, .int p2])).length) Slot.unset).toArray = ls at hl ⊢
  have hl : lv_has ls 4 [(0, .ref (a 0)), (1, .int p0), (2, .int p1), (3, .int p2)] := hl
  skip
  refine lv_aload_n hx hb dX12_value_0 rfl (lv_at hl 0 rfl) ?_
  refine lv_iload_n hx hb dX12_value_1 rfl (lv_at hl 2 rfl) ?_
  refine vp_callSi (va_runS (As := [.int p1]) (rest := [.ref (a 0)]) ⟨hx, hb, hml, hown, ht⟩ (k_X12_isRegister l p1) (va_cwS 1 ht (zG_S zw_59 zw_60 zw_2 zw_61) rfl rfl rfl (by decide +kernel) ⟨Nat.le_of_ble_eq_true rfl, Nat.le_of_ble_eq_true rfl⟩) zN_S rfl rfl hl.1 rfl (lv_room (Nat.le_of_ble_eq_true rfl)) dX12_value_2 ⟨Nat.le_of_ble_eq_true rfl, Nat.le_of_ble_eq_true rfl⟩).run (fun r_1 hw_1 => ?_)
  rcases hw_1 with ⟨rfl, h_1⟩ | ⟨rfl, h_1⟩
  · skip
    have hPc := hP.sub (ws' := [((a 0), .inr (12, zMo a zI0))]) [0] rfl
    have hDc := hD.sub (ws' := [((a 0), .inr (12, zMo a zI0))]) [0] (by decide) rfl
    have hKc := hK.sub (tys' := []) [] rfl
    have hFc := va_free (wc := [((a 0), .inr (12, zMo a zI0))]) hD hS hA [0] rfl
    refine va_calli (va_runV (As := [.int 1]) (rest := []) ⟨hx, hb, hml, hown, ht⟩ (k_X12_lacks l _ D a zI0 1 (by decide)) (cwV 1 ht (zG_V zw_62 zw_63 zw_64 zw_2 zw_65) rfl rfl rfl (by decide +kernel) ⟨Nat.le_of_ble_eq_true rfl, Nat.le_of_ble_eq_true rfl⟩) (zM_V (va_recv hK hP (ci := 12) (q0 := 0) rfl rfl) hPc hKc hDc) rfl rfl hl.1 rfl (lv_room (Nat.le_of_ble_eq_true rfl)) dX12_value_5 ⟨Nat.le_of_ble_eq_true rfl, Nat.le_of_ble_eq_true rfl⟩) hS (fun q _ h => hFc q h) hFc (fun r_2 u_2 t H1 locs ht0 hvm hw_2 hB hz1 hk1 hS => ?_)
    obtain ⟨rfl, rfl⟩ := hw_2.2 (by decide)
    obtain ⟨hP1, hK1, hD1⟩ := hB
    rw [ht0] at hP1
    have hK1 := va_K.moved hvm.symm hK1
    obtain ⟨hP, hD⟩ := va_join (wr := [((a 1), .inl (cI, 6792, .inl zI0))]) (w1 := [((a 0), .inr (12, zMo a (upd zI0 0 0)))]) hP hD [0] [1] rfl rfl (by decide) (by decide) hk1 hFc hP1 hD1
    generalize H1 = H at hP hS ⊢
    have hP : va_P D vwCl [((a 1), .inl (cI, 6792, .inl zI0)), ((a 0), .inr (12, zMo a (upd zI0 0 0)))] H := hP
    have hD : va_D A [((a 1), .inl (cI, 6792, .inl zI0)), ((a 0), .inr (12, zMo a (upd zI0 0 0)))] := hD
    refine lv_if_ne (tgt := 58) hx hb dX12_value_8 (by decide) (fun c_3 => ?_) (fun c_3 => ?_)
    · skip
      exact absurd c_3 (by decide)
    · skip
      refine lv_aload_n hx hb dX12_value_11 rfl (lv_at hl 0 rfl) ?_
      refine lv_aload_n hx hb dX12_value_12 rfl (lv_at hl 0 rfl) ?_
      refine lv_iload_n hx hb dX12_value_13 rfl (lv_at hl 2 rfl) ?_
      refine vp_callSi (va_runV (As := [.int p1]) (rest := [.ref (a 0)]) ⟨hx, hb, hml, hown, ht⟩ (k_X12_isFull l D a (upd zI0 0 0) cI p1 h_1) (cwV 1 ht (zG_V zw_69 zw_70 zw_71 zw_2 zw_72) rfl rfl rfl (by decide +kernel) ⟨Nat.le_of_ble_eq_true rfl, Nat.le_of_ble_eq_true rfl⟩) (zR_V (va_recv hK hP (ci := 12) (q0 := 1) rfl rfl) (hP.sub (ws' := [((a 0), .inr (12, zMo a (upd zI0 0 0))), ((a 1), .inl (cI, 6792, .inl zI0))]) [1, 0] rfl) hK) rfl rfl hl.1 rfl (lv_room (Nat.le_of_ble_eq_true rfl)) dX12_value_14 ⟨Nat.le_of_ble_eq_true rfl, Nat.le_of_ble_eq_true rfl⟩).run (fun r_4 hw_4 => ?_)
      obtain rfl : r_4 = 0 := hw_4
      refine lv_iconst (v := 2) hx hb dX12_value_17 (by decide) ?_
      have hPc := hP.sub (ws' := [((a 0), .inr (12, zMo a (upd zI0 0 0)))]) [1] rfl
      have hDc := hD.sub (ws' := [((a 0), .inr (12, zMo a (upd zI0 0 0)))]) [1] (by decide) rfl
      have hKc := hK.sub (tys' := []) [] rfl
      have hFc := va_free (wc := [((a 0), .inr (12, zMo a (upd zI0 0 0)))]) hD hS hA [1] rfl
      refine va_calli (va_runV (As := [.int 0, .int 2]) (rest := []) ⟨hx, hb, hml, hown, ht⟩ (k_X12_no l _ D a (upd zI0 0 0) 0 2 (by decide)) (cwV 2 ht (zG_V zw_30 zw_31 zw_32 zw_2 zw_33) rfl rfl rfl (by decide +kernel) ⟨Nat.le_of_ble_eq_true rfl, Nat.le_of_ble_eq_true rfl⟩) (zM_V (va_recv hK hP (ci := 12) (q0 := 1) rfl rfl) hPc hKc hDc) rfl rfl hl.1 rfl (lv_room (Nat.le_of_ble_eq_true rfl)) dX12_value_18 ⟨Nat.le_of_ble_eq_true rfl, Nat.le_of_ble_eq_true rfl⟩) hS (fun q _ h => hFc q h) hFc (fun r_5 u_5 t H1 locs ht0 hvm hw_5 hB hz1 hk1 hS => ?_)
      obtain ⟨rfl, rfl⟩ := hw_5.1 rfl
      obtain ⟨hP1, hK1, hD1⟩ := hB
      rw [ht0] at hP1
      have hK1 := va_K.moved hvm.symm hK1
      obtain ⟨hP, hD⟩ := va_join (wr := [((a 1), .inl (cI, 6792, .inl zI0))]) (w1 := [((a 0), .inr (12, zMo a (upd zI0 0 2)))]) hP hD [1] [0] rfl rfl (by decide) (by decide) hk1 hFc hP1 hD1
      generalize H1 = H at hP hS ⊢
      have hP : va_P D vwCl [((a 1), .inl (cI, 6792, .inl zI0)), ((a 0), .inr (12, zMo a (upd zI0 0 2)))] H := hP
      have hD : va_D A [((a 1), .inl (cI, 6792, .inl zI0)), ((a 0), .inr (12, zMo a (upd zI0 0 2)))] := hD
      refine lv_if_ne (tgt := 58) hx hb dX12_value_21 (by decide) (fun c_6 => ?_) (fun c_6 => ?_)
      · skip
        refine lv_iconst (v := 0) hx hb dX12_value_58 (by decide) ?_
        have hP9 := hP.sub (ws' := [((a 0), .inr (12, zMo a (upd zI0 0 2)))]) [1] rfl
        have hD9 := hD.sub (ws' := [((a 0), .inr (12, zMo a (upd zI0 0 2)))]) [1] (by decide) rfl
        have hK9 := hK.sub (tys' := []) [] rfl
        refine W.widen (k := 0) (n := 0) (Nat.le_of_ble_eq_true rfl) (Nat.le_of_ble_eq_true rfl) ?_
        exact W.iret (v := 0) hx hb hr (fun t ht0 hW => ⟨⟨0, upd zI0 0 2, rfl, (show zS_value p0 p1 p2 2 0 from (.inr ⟨rfl, by omega⟩)), (zE_of hP9 hK9 hD9 ht0 hW)⟩, hS.F ht0⟩) hS.2.2 dX12_value_59
      · skip
        exact absurd c_6 (by decide)
  · skip
    have hPc := hP.sub (ws' := [((a 0), .inr (12, zMo a zI0))]) [0] rfl
    have hDc := hD.sub (ws' := [((a 0), .inr (12, zMo a zI0))]) [0] (by decide) rfl
    have hKc := hK.sub (tys' := []) [] rfl
    have hFc := va_free (wc := [((a 0), .inr (12, zMo a zI0))]) hD hS hA [0] rfl
    refine va_calli (va_runV (As := [.int 0]) (rest := []) ⟨hx, hb, hml, hown, ht⟩ (k_X12_lacks l _ D a zI0 0 (by decide)) (cwV 1 ht (zG_V zw_62 zw_63 zw_64 zw_2 zw_65) rfl rfl rfl (by decide +kernel) ⟨Nat.le_of_ble_eq_true rfl, Nat.le_of_ble_eq_true rfl⟩) (zM_V (va_recv hK hP (ci := 12) (q0 := 0) rfl rfl) hPc hKc hDc) rfl rfl hl.1 rfl (lv_room (Nat.le_of_ble_eq_true rfl)) dX12_value_5 ⟨Nat.le_of_ble_eq_true rfl, Nat.le_of_ble_eq_true rfl⟩) hS (fun q _ h => hFc q h) hFc (fun r_7 u_7 t H1 locs ht0 hvm hw_7 hB hz1 hk1 hS => ?_)
    obtain ⟨rfl, rfl⟩ := hw_7.1 rfl
    obtain ⟨hP1, hK1, hD1⟩ := hB
    rw [ht0] at hP1
    have hK1 := va_K.moved hvm.symm hK1
    obtain ⟨hP, hD⟩ := va_join (wr := [((a 1), .inl (cI, 6792, .inl zI0))]) (w1 := [((a 0), .inr (12, zMo a (upd zI0 0 1)))]) hP hD [0] [1] rfl rfl (by decide) (by decide) hk1 hFc hP1 hD1
    generalize H1 = H at hP hS ⊢
    have hP : va_P D vwCl [((a 1), .inl (cI, 6792, .inl zI0)), ((a 0), .inr (12, zMo a (upd zI0 0 1)))] H := hP
    have hD : va_D A [((a 1), .inl (cI, 6792, .inl zI0)), ((a 0), .inr (12, zMo a (upd zI0 0 1)))] := hD
    refine lv_if_ne (tgt := 58) hx hb dX12_value_8 (by decide) (fun c_8 => ?_) (fun c_8 => ?_)
    · skip
      refine lv_iconst (v := 0) hx hb dX12_value_58 (by decide) ?_
      have hP9 := hP.sub (ws' := [((a 0), .inr (12, zMo a (upd zI0 0 1)))]) [1] rfl
      have hD9 := hD.sub (ws' := [((a 0), .inr (12, zMo a (upd zI0 0 1)))]) [1] (by decide) rfl
      have hK9 := hK.sub (tys' := []) [] rfl
      refine W.widen (k := 0) (n := 0) (Nat.le_of_ble_eq_true rfl) (Nat.le_of_ble_eq_true rfl) ?_
      exact W.iret (v := 0) hx hb hr (fun t ht0 hW => ⟨⟨0, upd zI0 0 1, rfl, (show zS_value p0 p1 p2 1 0 from (.inl ⟨rfl, by omega⟩)), (zE_of hP9 hK9 hD9 ht0 hW)⟩, hS.F ht0⟩) hS.2.2 dX12_value_59
    · skip
      exact absurd c_8 (by decide)
