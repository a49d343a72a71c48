abbrev cL_sign : ByteArray := method_3_code
def yL_sign : MethodName := ⟨RL, "sign", "(LChainwork;III[J)I"⟩
theorem dL_sign_0 : decode cL_sign 0 = .ok (.aload 4, 2) := by decide +kernel
theorem dL_sign_2 : decode cL_sign 2 = .ok (.iconst 0, 1) := by decide +kernel
theorem dL_sign_3 : decode cL_sign 3 = .ok (.aload_n 0, 1) := by decide +kernel
theorem dL_sign_4 : decode cL_sign 4 = .ok (.iload_n 1, 1) := by decide +kernel
theorem dL_sign_5 : decode cL_sign 5 = .ok (.iload_n 2, 1) := by decide +kernel
theorem dL_sign_6 : decode cL_sign 6 = .ok (.iload_n 3, 1) := by decide +kernel
theorem zw_588 : Cond.methodLink RL 7 yX11_sign ∈ zT := zT_of 757 (by decide +kernel) (by decide +kernel)
theorem zw_589 : Cond.instanceMethod yX11_sign ∈ zT := zT_of 758 (by decide +kernel) (by decide +kernel)
theorem zw_590 : Cond.selects RX11 yX11_sign yX11_sign ∈ zT := zT_of 759 (by decide +kernel) (by decide +kernel)
theorem zw_591 : Cond.code yX11_sign cX11_sign 5 (some .int) ∈ zT := zT_of 760 (by decide +kernel) (by decide +kernel)
theorem dL_sign_7 : decode cL_sign 7 = .ok (.invokevirtual 7, 3) := by decide +kernel
theorem zw_592 : Cond.classLink RL 13 "java/lang/IllegalArgumentException" ∈ zT := zT_of 755 (by decide +kernel) (by decide +kernel)
theorem dL_sign_15 : decode cL_sign 15 = .ok (.astore 5, 2) := by decide +kernel
theorem dL_sign_17 : decode cL_sign 17 = .ok (.iconst 1, 1) := by decide +kernel
theorem dL_sign_18 : decode cL_sign 18 = .ok (.ireturn, 1) := by decide +kernel
theorem dL_sign_10 : decode cL_sign 10 = .ok (.i2l, 1) := by decide +kernel
theorem dL_sign_11 : decode cL_sign 11 = .ok (.lastore, 1) := by decide +kernel
theorem dL_sign_12 : decode cL_sign 12 = .ok (.goto 11, 3) := by decide +kernel
theorem dL_sign_23 : decode cL_sign 23 = .ok (.iconst 0, 1) := by decide +kernel
theorem dL_sign_24 : decode cL_sign 24 = .ok (.ireturn, 1) := by decide +kernel
abbrev cL_variable : ByteArray := method_4_code
def yL_variable : MethodName := ⟨RL, "variable", "(LChainwork;II[J)I"⟩
theorem dL_variable_0 : decode cL_variable 0 = .ok (.aload_n 3, 1) := by decide +kernel
theorem dL_variable_1 : decode cL_variable 1 = .ok (.iconst 0, 1) := by decide +kernel
theorem dL_variable_2 : decode cL_variable 2 = .ok (.aload_n 0, 1) := by decide +kernel
theorem dL_variable_3 : decode cL_variable 3 = .ok (.iload_n 1, 1) := by decide +kernel
theorem dL_variable_4 : decode cL_variable 4 = .ok (.iload_n 2, 1) := by decide +kernel
theorem zw_593 : Cond.methodLink RL 17 yX11_variable ∈ zT := zT_of 887 (by decide +kernel) (by decide +kernel)
theorem zw_594 : Cond.instanceMethod yX11_variable ∈ zT := zT_of 888 (by decide +kernel) (by decide +kernel)
theorem zw_595 : Cond.selects RX11 yX11_variable yX11_variable ∈ zT := zT_of 889 (by decide +kernel) (by decide +kernel)
theorem zw_596 : Cond.code yX11_variable cX11_variable 3 (some .int) ∈ zT := zT_of 890 (by decide +kernel) (by decide +kernel)
theorem dL_variable_5 : decode cL_variable 5 = .ok (.invokevirtual 17, 3) := by decide +kernel
theorem zw_597 : Cond.classLink RL 21 "java/lang/IndexOutOfBoundsException" ∈ zT := zT_of 886 (by decide +kernel) (by decide +kernel)
theorem dL_variable_13 : decode cL_variable 13 = .ok (.astore 4, 2) := by decide +kernel
theorem dL_variable_15 : decode cL_variable 15 = .ok (.iconst 1, 1) := by decide +kernel
theorem dL_variable_16 : decode cL_variable 16 = .ok (.ireturn, 1) := by decide +kernel
theorem dL_variable_17 : decode cL_variable 17 = .ok (.astore 4, 2) := by decide +kernel
theorem dL_variable_19 : decode cL_variable 19 = .ok (.iconst 2, 1) := by decide +kernel
theorem dL_variable_20 : decode cL_variable 20 = .ok (.ireturn, 1) := by decide +kernel
theorem dL_variable_8 : decode cL_variable 8 = .ok (.i2l, 1) := by decide +kernel
theorem dL_variable_9 : decode cL_variable 9 = .ok (.lastore, 1) := by decide +kernel
theorem dL_variable_10 : decode cL_variable 10 = .ok (.goto 11, 3) := by decide +kernel
theorem dL_variable_21 : decode cL_variable 21 = .ok (.iconst 0, 1) := by decide +kernel
theorem dL_variable_22 : decode cL_variable 22 = .ok (.ireturn, 1) := by decide +kernel
abbrev cL_term : ByteArray := method_5_code
def yL_term : MethodName := ⟨RL, "term", "(LChainwork;IIII[J)I"⟩
theorem dL_term_0 : decode cL_term 0 = .ok (.aload 5, 2) := by decide +kernel
theorem dL_term_2 : decode cL_term 2 = .ok (.iconst 0, 1) := by decide +kernel
theorem dL_term_3 : decode cL_term 3 = .ok (.aload_n 0, 1) := by decide +kernel
theorem dL_term_4 : decode cL_term 4 = .ok (.iload_n 1, 1) := by decide +kernel
theorem dL_term_5 : decode cL_term 5 = .ok (.iload_n 2, 1) := by decide +kernel
theorem dL_term_6 : decode cL_term 6 = .ok (.iload_n 3, 1) := by decide +kernel
theorem dL_term_7 : decode cL_term 7 = .ok (.iload 4, 2) := by decide +kernel
theorem zw_598 : Cond.methodLink RL 23 yX11_term ∈ zT := zT_of 938 (by decide +kernel) (by decide +kernel)
theorem zw_599 : Cond.instanceMethod yX11_term ∈ zT := zT_of 939 (by decide +kernel) (by decide +kernel)
theorem zw_600 : Cond.selects RX11 yX11_term yX11_term ∈ zT := zT_of 940 (by decide +kernel) (by decide +kernel)
theorem zw_601 : Cond.code yX11_term cX11_term 8 (some .int) ∈ zT := zT_of 941 (by decide +kernel) (by decide +kernel)
theorem dL_term_9 : decode cL_term 9 = .ok (.invokevirtual 23, 3) := by decide +kernel
theorem dL_term_17 : decode cL_term 17 = .ok (.astore 6, 2) := by decide +kernel
theorem dL_term_19 : decode cL_term 19 = .ok (.iconst 1, 1) := by decide +kernel
theorem dL_term_20 : decode cL_term 20 = .ok (.ireturn, 1) := by decide +kernel
abbrev cL_read : ByteArray := method_6_code
def yL_read : MethodName := ⟨RL, "read", "(LChainwork;I[J)I"⟩
theorem dL_read_0 : decode cL_read 0 = .ok (.aload_n 2, 1) := by decide +kernel
theorem dL_read_1 : decode cL_read 1 = .ok (.iconst 0, 1) := by decide +kernel
theorem dL_read_2 : decode cL_read 2 = .ok (.aload_n 0, 1) := by decide +kernel
theorem dL_read_3 : decode cL_read 3 = .ok (.iload_n 1, 1) := by decide +kernel
theorem zw_602 : Cond.methodLink RL 27 yX11_read ∈ zT := zT_of 957 (by decide +kernel) (by decide +kernel)
theorem zw_603 : Cond.instanceMethod yX11_read ∈ zT := zT_of 958 (by decide +kernel) (by decide +kernel)
theorem zw_604 : Cond.selects RX11 yX11_read yX11_read ∈ zT := zT_of 959 (by decide +kernel) (by decide +kernel)
theorem zw_605 : Cond.code yX11_read cX11_read 2 (some .int) ∈ zT := zT_of 960 (by decide +kernel) (by decide +kernel)
theorem dL_read_4 : decode cL_read 4 = .ok (.invokevirtual 27, 3) := by decide +kernel
theorem dL_read_12 : decode cL_read 12 = .ok (.astore_n 3, 1) := by decide +kernel
theorem dL_read_13 : decode cL_read 13 = .ok (.iconst 1, 1) := by decide +kernel
theorem dL_read_14 : decode cL_read 14 = .ok (.ireturn, 1) := by decide +kernel
theorem dL_read_15 : decode cL_read 15 = .ok (.astore_n 3, 1) := by decide +kernel
theorem dL_read_16 : decode cL_read 16 = .ok (.iconst 2, 1) := by decide +kernel
theorem dL_read_17 : decode cL_read 17 = .ok (.ireturn, 1) := by decide +kernel
abbrev cL_part : ByteArray := method_7_code
def yL_part : MethodName := ⟨RL, "part", "(LChainwork;III[J)I"⟩
theorem dL_part_0 : decode cL_part 0 = .ok (.aload 4, 2) := by decide +kernel
theorem dL_part_2 : decode cL_part 2 = .ok (.iconst 0, 1) := by decide +kernel
theorem dL_part_3 : decode cL_part 3 = .ok (.aload_n 0, 1) := by decide +kernel
theorem dL_part_4 : decode cL_part 4 = .ok (.iload_n 1, 1) := by decide +kernel
theorem dL_part_5 : decode cL_part 5 = .ok (.iload_n 2, 1) := by decide +kernel
theorem dL_part_6 : decode cL_part 6 = .ok (.iload_n 3, 1) := by decide +kernel
theorem zw_606 : Cond.methodLink RL 31 yX11_part ∈ zT := zT_of 965 (by decide +kernel) (by decide +kernel)
theorem zw_607 : Cond.instanceMethod yX11_part ∈ zT := zT_of 966 (by decide +kernel) (by decide +kernel)
theorem zw_608 : Cond.selects RX11 yX11_part yX11_part ∈ zT := zT_of 967 (by decide +kernel) (by decide +kernel)
theorem zw_609 : Cond.code yX11_part cX11_part 6 (some .int) ∈ zT := zT_of 968 (by decide +kernel) (by decide +kernel)
theorem dL_part_7 : decode cL_part 7 = .ok (.invokevirtual 31, 3) := by decide +kernel
theorem dL_part_15 : decode cL_part 15 = .ok (.astore 5, 2) := by decide +kernel
theorem dL_part_17 : decode cL_part 17 = .ok (.iconst 1, 1) := by decide +kernel
theorem dL_part_18 : decode cL_part 18 = .ok (.ireturn, 1) := by decide +kernel
theorem zw_610 : Cond.classLink RL 15 "java/lang/IllegalStateException" ∈ zT := zT_of 756 (by decide +kernel) (by decide +kernel)
theorem dL_part_19 : decode cL_part 19 = .ok (.astore 5, 2) := by decide +kernel
theorem dL_part_21 : decode cL_part 21 = .ok (.iconst 2, 1) := by decide +kernel
theorem dL_part_22 : decode cL_part 22 = .ok (.ireturn, 1) := by decide +kernel
abbrev cL_law : ByteArray := method_8_code
def yL_law : MethodName := ⟨RL, "law", "(LChainwork;IIII[J)I"⟩
theorem dL_law_0 : decode cL_law 0 = .ok (.aload 5, 2) := by decide +kernel
theorem dL_law_2 : decode cL_law 2 = .ok (.iconst 0, 1) := by decide +kernel
theorem dL_law_3 : decode cL_law 3 = .ok (.aload_n 0, 1) := by decide +kernel
theorem dL_law_4 : decode cL_law 4 = .ok (.iload_n 1, 1) := by decide +kernel
theorem dL_law_5 : decode cL_law 5 = .ok (.iload_n 2, 1) := by decide +kernel
theorem dL_law_6 : decode cL_law 6 = .ok (.iload_n 3, 1) := by decide +kernel
theorem dL_law_7 : decode cL_law 7 = .ok (.iload 4, 2) := by decide +kernel
theorem zw_611 : Cond.methodLink RL 34 yX11_law ∈ zT := zT_of 972 (by decide +kernel) (by decide +kernel)
theorem zw_612 : Cond.instanceMethod yX11_law ∈ zT := zT_of 973 (by decide +kernel) (by decide +kernel)
theorem zw_613 : Cond.selects RX11 yX11_law yX11_law ∈ zT := zT_of 974 (by decide +kernel) (by decide +kernel)
theorem zw_614 : Cond.code yX11_law cX11_law 6 (some .int) ∈ zT := zT_of 975 (by decide +kernel) (by decide +kernel)
theorem dL_law_9 : decode cL_law 9 = .ok (.invokevirtual 34, 3) := by decide +kernel
theorem dL_law_17 : decode cL_law 17 = .ok (.astore 6, 2) := by decide +kernel
theorem dL_law_19 : decode cL_law 19 = .ok (.iconst 1, 1) := by decide +kernel
theorem dL_law_20 : decode cL_law 20 = .ok (.ireturn, 1) := by decide +kernel
theorem dL_law_21 : decode cL_law 21 = .ok (.astore 6, 2) := by decide +kernel
theorem dL_law_23 : decode cL_law 23 = .ok (.iconst 2, 1) := by decide +kernel
theorem dL_law_24 : decode cL_law 24 = .ok (.ireturn, 1) := by decide +kernel
theorem dL_law_25 : decode cL_law 25 = .ok (.astore 6, 2) := by decide +kernel
theorem dL_law_27 : decode cL_law 27 = .ok (.iconst 3, 1) := by decide +kernel
theorem dL_law_28 : decode cL_law 28 = .ok (.ireturn, 1) := by decide +kernel
abbrev cL_condition : ByteArray := method_9_code
def yL_condition : MethodName := ⟨RL, "condition", "(LChainwork;III[J)I"⟩
theorem dL_condition_0 : decode cL_condition 0 = .ok (.aload 4, 2) := by decide +kernel
theorem dL_condition_2 : decode cL_condition 2 = .ok (.iconst 0, 1) := by decide +kernel
theorem dL_condition_3 : decode cL_condition 3 = .ok (.aload_n 0, 1) := by decide +kernel
theorem dL_condition_4 : decode cL_condition 4 = .ok (.iload_n 1, 1) := by decide +kernel
theorem dL_condition_5 : decode cL_condition 5 = .ok (.iload_n 2, 1) := by decide +kernel
theorem dL_condition_6 : decode cL_condition 6 = .ok (.iload_n 3, 1) := by decide +kernel
theorem zw_615 : Cond.methodLink RL 37 yX11_condition ∈ zT := zT_of 999 (by decide +kernel) (by decide +kernel)
theorem zw_616 : Cond.instanceMethod yX11_condition ∈ zT := zT_of 1000 (by decide +kernel) (by decide +kernel)
theorem zw_617 : Cond.selects RX11 yX11_condition yX11_condition ∈ zT := zT_of 1001 (by decide +kernel) (by decide +kernel)
theorem zw_618 : Cond.code yX11_condition cX11_condition 8 (some .boolean) ∈ zT := zT_of 1002 (by decide +kernel) (by decide +kernel)
theorem dL_condition_7 : decode cL_condition 7 = .ok (.invokevirtual 37, 3) := by decide +kernel
theorem zw_619 : Cond.classLink RL 41 "java/util/NoSuchElementException" ∈ zT := zT_of 998 (by decide +kernel) (by decide +kernel)
theorem dL_condition_22 : decode cL_condition 22 = .ok (.astore 5, 2) := by decide +kernel
theorem dL_condition_24 : decode cL_condition 24 = .ok (.iconst 1, 1) := by decide +kernel
theorem dL_condition_25 : decode cL_condition 25 = .ok (.ireturn, 1) := by decide +kernel
abbrev cL_equivalence : ByteArray := method_10_code
def yL_equivalence : MethodName := ⟨RL, "equivalence", "(LChainwork;IIIII[J)I"⟩
theorem dL_equivalence_0 : decode cL_equivalence 0 = .ok (.aload 6, 2) := by decide +kernel
theorem dL_equivalence_2 : decode cL_equivalence 2 = .ok (.iconst 0, 1) := by decide +kernel
theorem dL_equivalence_3 : decode cL_equivalence 3 = .ok (.aload_n 0, 1) := by decide +kernel
theorem dL_equivalence_4 : decode cL_equivalence 4 = .ok (.iload_n 1, 1) := by decide +kernel
theorem dL_equivalence_5 : decode cL_equivalence 5 = .ok (.iload_n 2, 1) := by decide +kernel
theorem dL_equivalence_6 : decode cL_equivalence 6 = .ok (.iload_n 3, 1) := by decide +kernel
theorem dL_equivalence_7 : decode cL_equivalence 7 = .ok (.iload 4, 2) := by decide +kernel
theorem dL_equivalence_9 : decode cL_equivalence 9 = .ok (.iload 5, 2) := by decide +kernel
theorem zw_620 : Cond.methodLink RL 43 yX11_equivalence ∈ zT := zT_of 1043 (by decide +kernel) (by decide +kernel)
theorem zw_621 : Cond.instanceMethod yX11_equivalence ∈ zT := zT_of 1044 (by decide +kernel) (by decide +kernel)
theorem zw_622 : Cond.selects RX11 yX11_equivalence yX11_equivalence ∈ zT := zT_of 1045 (by decide +kernel) (by decide +kernel)
theorem zw_623 : Cond.code yX11_equivalence cX11_equivalence 8 (some .int) ∈ zT := zT_of 1046 (by decide +kernel) (by decide +kernel)
theorem dL_equivalence_11 : decode cL_equivalence 11 = .ok (.invokevirtual 43, 3) := by decide +kernel
theorem dL_equivalence_19 : decode cL_equivalence 19 = .ok (.astore 7, 2) := by decide +kernel
theorem dL_equivalence_21 : decode cL_equivalence 21 = .ok (.iconst 1, 1) := by decide +kernel
theorem dL_equivalence_22 : decode cL_equivalence 22 = .ok (.ireturn, 1) := by decide +kernel
theorem dL_equivalence_23 : decode cL_equivalence 23 = .ok (.astore 7, 2) := by decide +kernel
theorem dL_equivalence_25 : decode cL_equivalence 25 = .ok (.iconst 2, 1) := by decide +kernel
theorem dL_equivalence_26 : decode cL_equivalence 26 = .ok (.ireturn, 1) := by decide +kernel
theorem dL_equivalence_27 : decode cL_equivalence 27 = .ok (.astore 7, 2) := by decide +kernel
theorem dL_equivalence_29 : decode cL_equivalence 29 = .ok (.iconst 3, 1) := by decide +kernel
theorem dL_equivalence_30 : decode cL_equivalence 30 = .ok (.ireturn, 1) := by decide +kernel
abbrev cL_assume : ByteArray := method_11_code
def yL_assume : MethodName := ⟨RL, "assume", "(LChainwork;II[J)I"⟩
theorem dL_assume_0 : decode cL_assume 0 = .ok (.aload_n 3, 1) := by decide +kernel
theorem dL_assume_1 : decode cL_assume 1 = .ok (.iconst 0, 1) := by decide +kernel
theorem dL_assume_2 : decode cL_assume 2 = .ok (.aload_n 0, 1) := by decide +kernel
theorem dL_assume_3 : decode cL_assume 3 = .ok (.iload_n 1, 1) := by decide +kernel
theorem dL_assume_4 : decode cL_assume 4 = .ok (.iload_n 2, 1) := by decide +kernel
theorem zw_624 : Cond.methodLink RL 47 yX11_assume ∈ zT := zT_of 1072 (by decide +kernel) (by decide +kernel)
theorem zw_625 : Cond.instanceMethod yX11_assume ∈ zT := zT_of 1073 (by decide +kernel) (by decide +kernel)
theorem zw_626 : Cond.selects RX11 yX11_assume yX11_assume ∈ zT := zT_of 1074 (by decide +kernel) (by decide +kernel)
theorem zw_627 : Cond.code yX11_assume cX11_assume 6 (some .int) ∈ zT := zT_of 1075 (by decide +kernel) (by decide +kernel)
theorem dL_assume_5 : decode cL_assume 5 = .ok (.invokevirtual 47, 3) := by decide +kernel
theorem dL_assume_13 : decode cL_assume 13 = .ok (.astore 4, 2) := by decide +kernel
theorem dL_assume_15 : decode cL_assume 15 = .ok (.iconst 1, 1) := by decide +kernel
theorem dL_assume_16 : decode cL_assume 16 = .ok (.ireturn, 1) := by decide +kernel
theorem dL_assume_17 : decode cL_assume 17 = .ok (.astore 4, 2) := by decide +kernel
theorem dL_assume_19 : decode cL_assume 19 = .ok (.iconst 2, 1) := by decide +kernel
theorem dL_assume_20 : decode cL_assume 20 = .ok (.ireturn, 1) := by decide +kernel
abbrev cL_giveUp : ByteArray := method_12_code
def yL_giveUp : MethodName := ⟨RL, "giveUp", "(LChainwork;[J)I"⟩
theorem dL_giveUp_0 : decode cL_giveUp 0 = .ok (.aload_n 1, 1) := by decide +kernel
theorem dL_giveUp_1 : decode cL_giveUp 1 = .ok (.iconst 0, 1) := by decide +kernel
theorem dL_giveUp_2 : decode cL_giveUp 2 = .ok (.aload_n 0, 1) := by decide +kernel
theorem zw_628 : Cond.methodLink RL 50 yX11_giveUp ∈ zT := zT_of 1080 (by decide +kernel) (by decide +kernel)
theorem zw_629 : Cond.instanceMethod yX11_giveUp ∈ zT := zT_of 1081 (by decide +kernel) (by decide +kernel)
theorem zw_630 : Cond.selects RX11 yX11_giveUp yX11_giveUp ∈ zT := zT_of 1082 (by decide +kernel) (by decide +kernel)
theorem zw_631 : Cond.code yX11_giveUp cX11_giveUp 1 (some .int) ∈ zT := zT_of 1083 (by decide +kernel) (by decide +kernel)
theorem dL_giveUp_3 : decode cL_giveUp 3 = .ok (.invokevirtual 50, 3) := by decide +kernel
theorem dL_giveUp_11 : decode cL_giveUp 11 = .ok (.astore_n 2, 1) := by decide +kernel
theorem dL_giveUp_12 : decode cL_giveUp 12 = .ok (.iconst 1, 1) := by decide +kernel
theorem dL_giveUp_13 : decode cL_giveUp 13 = .ok (.ireturn, 1) := by decide +kernel
abbrev cL_end : ByteArray := method_13_code
def yL_end : MethodName := ⟨RL, "end", "(LChainwork;II[J)I"⟩
theorem dL_end_0 : decode cL_end 0 = .ok (.aload_n 3, 1) := by decide +kernel
theorem dL_end_1 : decode cL_end 1 = .ok (.iconst 0, 1) := by decide +kernel
theorem dL_end_2 : decode cL_end 2 = .ok (.aload_n 0, 1) := by decide +kernel
theorem dL_end_3 : decode cL_end 3 = .ok (.iload_n 1, 1) := by decide +kernel
theorem dL_end_4 : decode cL_end 4 = .ok (.iload_n 2, 1) := by decide +kernel
theorem zw_632 : Cond.methodLink RL 54 yX11_end ∈ zT := zT_of 1096 (by decide +kernel) (by decide +kernel)
theorem zw_633 : Cond.instanceMethod yX11_end ∈ zT := zT_of 1097 (by decide +kernel) (by decide +kernel)
theorem zw_634 : Cond.selects RX11 yX11_end yX11_end ∈ zT := zT_of 1098 (by decide +kernel) (by decide +kernel)
theorem zw_635 : Cond.code yX11_end cX11_end 5 (some .int) ∈ zT := zT_of 1099 (by decide +kernel) (by decide +kernel)
theorem dL_end_5 : decode cL_end 5 = .ok (.invokevirtual 54, 3) := by decide +kernel
theorem dL_end_13 : decode cL_end 13 = .ok (.astore 4, 2) := by decide +kernel
theorem dL_end_15 : decode cL_end 15 = .ok (.iconst 1, 1) := by decide +kernel
theorem dL_end_16 : decode cL_end 16 = .ok (.ireturn, 1) := by decide +kernel
theorem dL_end_17 : decode cL_end 17 = .ok (.astore 4, 2) := by decide +kernel
theorem dL_end_19 : decode cL_end 19 = .ok (.iconst 2, 1) := by decide +kernel
theorem dL_end_20 : decode cL_end 20 = .ok (.ireturn, 1) := by decide +kernel
theorem dL_end_21 : decode cL_end 21 = .ok (.astore 4, 2) := by decide +kernel
theorem dL_end_23 : decode cL_end 23 = .ok (.iconst 3, 1) := by decide +kernel
theorem dL_end_24 : decode cL_end 24 = .ok (.ireturn, 1) := by decide +kernel
abbrev cL_lemma : ByteArray := method_14_code
def yL_lemma : MethodName := ⟨RL, "lemma", "(LChainwork;II[J)I"⟩
theorem dL_lemma_0 : decode cL_lemma 0 = .ok (.aload_n 3, 1) := by decide +kernel
theorem dL_lemma_1 : decode cL_lemma 1 = .ok (.iconst 0, 1) := by decide +kernel
theorem dL_lemma_2 : decode cL_lemma 2 = .ok (.aload_n 0, 1) := by decide +kernel
theorem dL_lemma_3 : decode cL_lemma 3 = .ok (.iload_n 1, 1) := by decide +kernel
theorem dL_lemma_4 : decode cL_lemma 4 = .ok (.iload_n 2, 1) := by decide +kernel
theorem zw_636 : Cond.methodLink RL 57 yX11_lemma ∈ zT := zT_of 1109 (by decide +kernel) (by decide +kernel)
theorem zw_637 : Cond.instanceMethod yX11_lemma ∈ zT := zT_of 1110 (by decide +kernel) (by decide +kernel)
theorem zw_638 : Cond.selects RX11 yX11_lemma yX11_lemma ∈ zT := zT_of 1111 (by decide +kernel) (by decide +kernel)
theorem zw_639 : Cond.code yX11_lemma cX11_lemma 4 (some .int) ∈ zT := zT_of 1112 (by decide +kernel) (by decide +kernel)
theorem dL_lemma_5 : decode cL_lemma 5 = .ok (.invokevirtual 57, 3) := by decide +kernel
theorem dL_lemma_13 : decode cL_lemma 13 = .ok (.astore 4, 2) := by decide +kernel
theorem dL_lemma_15 : decode cL_lemma 15 = .ok (.iconst 1, 1) := by decide +kernel
theorem dL_lemma_16 : decode cL_lemma 16 = .ok (.ireturn, 1) := by decide +kernel
theorem dL_lemma_17 : decode cL_lemma 17 = .ok (.astore 4, 2) := by decide +kernel
theorem dL_lemma_19 : decode cL_lemma 19 = .ok (.iconst 2, 1) := by decide +kernel
theorem dL_lemma_20 : decode cL_lemma 20 = .ok (.ireturn, 1) := by decide +kernel
theorem dL_lemma_21 : decode cL_lemma 21 = .ok (.astore 4, 2) := by decide +kernel
theorem dL_lemma_23 : decode cL_lemma 23 = .ok (.iconst 3, 1) := by decide +kernel
theorem dL_lemma_24 : decode cL_lemma 24 = .ok (.ireturn, 1) := by decide +kernel
abbrev cL_cases : ByteArray := method_15_code
def yL_cases : MethodName := ⟨RL, "cases", "(LChainwork;III[J)I"⟩
theorem dL_cases_0 : decode cL_cases 0 = .ok (.aload 4, 2) := by decide +kernel
theorem dL_cases_2 : decode cL_cases 2 = .ok (.iconst 0, 1) := by decide +kernel
theorem dL_cases_3 : decode cL_cases 3 = .ok (.aload_n 0, 1) := by decide +kernel
theorem dL_cases_4 : decode cL_cases 4 = .ok (.iload_n 1, 1) := by decide +kernel
theorem dL_cases_5 : decode cL_cases 5 = .ok (.iload_n 2, 1) := by decide +kernel
theorem dL_cases_6 : decode cL_cases 6 = .ok (.iload_n 3, 1) := by decide +kernel
theorem zw_640 : Cond.methodLink RL 60 yX11_cases ∈ zT := zT_of 1116 (by decide +kernel) (by decide +kernel)
theorem zw_641 : Cond.instanceMethod yX11_cases ∈ zT := zT_of 1117 (by decide +kernel) (by decide +kernel)
theorem zw_642 : Cond.selects RX11 yX11_cases yX11_cases ∈ zT := zT_of 1118 (by decide +kernel) (by decide +kernel)
theorem zw_643 : Cond.code yX11_cases cX11_cases 8 (some .int) ∈ zT := zT_of 1119 (by decide +kernel) (by decide +kernel)
theorem dL_cases_7 : decode cL_cases 7 = .ok (.invokevirtual 60, 3) := by decide +kernel
theorem dL_cases_15 : decode cL_cases 15 = .ok (.astore 5, 2) := by decide +kernel
theorem dL_cases_17 : decode cL_cases 17 = .ok (.iconst 1, 1) := by decide +kernel
theorem dL_cases_18 : decode cL_cases 18 = .ok (.ireturn, 1) := by decide +kernel
theorem dL_cases_19 : decode cL_cases 19 = .ok (.astore 5, 2) := by decide +kernel
theorem dL_cases_21 : decode cL_cases 21 = .ok (.iconst 2, 1) := by decide +kernel
theorem dL_cases_22 : decode cL_cases 22 = .ok (.ireturn, 1) := by decide +kernel
abbrev cL_across : ByteArray := method_16_code
def yL_across : MethodName := ⟨RL, "across", "(LChainwork;IIIZ[J)I"⟩
theorem dL_across_0 : decode cL_across 0 = .ok (.aload 5, 2) := by decide +kernel
theorem dL_across_2 : decode cL_across 2 = .ok (.iconst 0, 1) := by decide +kernel
theorem dL_across_3 : decode cL_across 3 = .ok (.aload_n 0, 1) := by decide +kernel
theorem dL_across_4 : decode cL_across 4 = .ok (.iload_n 1, 1) := by decide +kernel
theorem dL_across_5 : decode cL_across 5 = .ok (.iload_n 2, 1) := by decide +kernel
theorem dL_across_6 : decode cL_across 6 = .ok (.iload_n 3, 1) := by decide +kernel
theorem dL_across_7 : decode cL_across 7 = .ok (.iload 4, 2) := by decide +kernel
theorem zw_644 : Cond.methodLink RL 63 yX11_across ∈ zT := zT_of 1131 (by decide +kernel) (by decide +kernel)
theorem zw_645 : Cond.instanceMethod yX11_across ∈ zT := zT_of 1132 (by decide +kernel) (by decide +kernel)
theorem zw_646 : Cond.selects RX11 yX11_across yX11_across ∈ zT := zT_of 1133 (by decide +kernel) (by decide +kernel)
theorem zw_647 : Cond.code yX11_across cX11_across 12 (some .int) ∈ zT := zT_of 1134 (by decide +kernel) (by decide +kernel)
theorem dL_across_9 : decode cL_across 9 = .ok (.invokevirtual 63, 3) := by decide +kernel
theorem dL_across_17 : decode cL_across 17 = .ok (.astore 6, 2) := by decide +kernel
theorem dL_across_19 : decode cL_across 19 = .ok (.iconst 1, 1) := by decide +kernel
theorem dL_across_20 : decode cL_across 20 = .ok (.ireturn, 1) := by decide +kernel
theorem dL_across_21 : decode cL_across 21 = .ok (.astore 6, 2) := by decide +kernel
theorem dL_across_23 : decode cL_across 23 = .ok (.iconst 2, 1) := by decide +kernel
theorem dL_across_24 : decode cL_across 24 = .ok (.ireturn, 1) := by decide +kernel
abbrev cL_begin : ByteArray := method_17_code
def yL_begin : MethodName := ⟨RL, "begin", "(LChainwork;II[J)I"⟩
theorem dL_begin_0 : decode cL_begin 0 = .ok (.aload_n 3, 1) := by decide +kernel
theorem dL_begin_1 : decode cL_begin 1 = .ok (.iconst 0, 1) := by decide +kernel
theorem dL_begin_2 : decode cL_begin 2 = .ok (.aload_n 0, 1) := by decide +kernel
theorem dL_begin_3 : decode cL_begin 3 = .ok (.iload_n 1, 1) := by decide +kernel
theorem dL_begin_4 : decode cL_begin 4 = .ok (.iload_n 2, 1) := by decide +kernel
theorem zw_648 : Cond.methodLink RL 67 yX11_begin ∈ zT := zT_of 1151 (by decide +kernel) (by decide +kernel)
theorem zw_649 : Cond.instanceMethod yX11_begin ∈ zT := zT_of 1152 (by decide +kernel) (by decide +kernel)
theorem zw_650 : Cond.selects RX11 yX11_begin yX11_begin ∈ zT := zT_of 1153 (by decide +kernel) (by decide +kernel)
theorem zw_651 : Cond.code yX11_begin cX11_begin 6 (some .int) ∈ zT := zT_of 1154 (by decide +kernel) (by decide +kernel)
theorem dL_begin_5 : decode cL_begin 5 = .ok (.invokevirtual 67, 3) := by decide +kernel
theorem dL_begin_13 : decode cL_begin 13 = .ok (.astore 4, 2) := by decide +kernel
theorem dL_begin_15 : decode cL_begin 15 = .ok (.iconst 1, 1) := by decide +kernel
theorem dL_begin_16 : decode cL_begin 16 = .ok (.ireturn, 1) := by decide +kernel
theorem dL_begin_17 : decode cL_begin 17 = .ok (.astore 4, 2) := by decide +kernel
theorem dL_begin_19 : decode cL_begin 19 = .ok (.iconst 2, 1) := by decide +kernel
theorem dL_begin_20 : decode cL_begin 20 = .ok (.ireturn, 1) := by decide +kernel
abbrev cL_line : ByteArray := method_18_code
def yL_line : MethodName := ⟨RL, "line", "(LChainwork;III[J)I"⟩
theorem dL_line_0 : decode cL_line 0 = .ok (.aload 4, 2) := by decide +kernel
theorem dL_line_2 : decode cL_line 2 = .ok (.iconst 0, 1) := by decide +kernel
theorem dL_line_3 : decode cL_line 3 = .ok (.aload_n 0, 1) := by decide +kernel
theorem dL_line_4 : decode cL_line 4 = .ok (.iload_n 1, 1) := by decide +kernel
theorem dL_line_5 : decode cL_line 5 = .ok (.iload_n 2, 1) := by decide +kernel
theorem dL_line_6 : decode cL_line 6 = .ok (.iload_n 3, 1) := by decide +kernel
theorem zw_652 : Cond.methodLink RL 70 yX11_line ∈ zT := zT_of 1164 (by decide +kernel) (by decide +kernel)
theorem zw_653 : Cond.instanceMethod yX11_line ∈ zT := zT_of 1165 (by decide +kernel) (by decide +kernel)
theorem zw_654 : Cond.selects RX11 yX11_line yX11_line ∈ zT := zT_of 1166 (by decide +kernel) (by decide +kernel)
theorem zw_655 : Cond.code yX11_line cX11_line 5 (some .int) ∈ zT := zT_of 1167 (by decide +kernel) (by decide +kernel)
theorem dL_line_7 : decode cL_line 7 = .ok (.invokevirtual 70, 3) := by decide +kernel
theorem dL_line_15 : decode cL_line 15 = .ok (.astore 5, 2) := by decide +kernel
theorem dL_line_17 : decode cL_line 17 = .ok (.iconst 1, 1) := by decide +kernel
theorem dL_line_18 : decode cL_line 18 = .ok (.ireturn, 1) := by decide +kernel
theorem dL_line_19 : decode cL_line 19 = .ok (.astore 5, 2) := by decide +kernel
theorem dL_line_21 : decode cL_line 21 = .ok (.iconst 2, 1) := by decide +kernel
theorem dL_line_22 : decode cL_line 22 = .ok (.ireturn, 1) := by decide +kernel
theorem dL_line_23 : decode cL_line 23 = .ok (.astore 5, 2) := by decide +kernel
theorem dL_line_25 : decode cL_line 25 = .ok (.iconst 3, 1) := by decide +kernel
theorem dL_line_26 : decode cL_line 26 = .ok (.ireturn, 1) := by decide +kernel
abbrev cL_step : ByteArray := method_19_code
def yL_step : MethodName := ⟨RL, "step", "(LChainwork;III[J)I"⟩
theorem dL_step_0 : decode cL_step 0 = .ok (.aload 4, 2) := by decide +kernel
theorem dL_step_2 : decode cL_step 2 = .ok (.iconst 0, 1) := by decide +kernel
theorem dL_step_3 : decode cL_step 3 = .ok (.aload_n 0, 1) := by decide +kernel
theorem dL_step_4 : decode cL_step 4 = .ok (.iload_n 1, 1) := by decide +kernel
theorem dL_step_5 : decode cL_step 5 = .ok (.iload_n 2, 1) := by decide +kernel
theorem dL_step_6 : decode cL_step 6 = .ok (.iload_n 3, 1) := by decide +kernel
theorem zw_656 : Cond.methodLink RL 73 yX11_step ∈ zT := zT_of 1191 (by decide +kernel) (by decide +kernel)
theorem zw_657 : Cond.instanceMethod yX11_step ∈ zT := zT_of 1192 (by decide +kernel) (by decide +kernel)
theorem zw_658 : Cond.selects RX11 yX11_step yX11_step ∈ zT := zT_of 1193 (by decide +kernel) (by decide +kernel)
theorem zw_659 : Cond.code yX11_step cX11_step 7 (some .int) ∈ zT := zT_of 1194 (by decide +kernel) (by decide +kernel)
theorem dL_step_7 : decode cL_step 7 = .ok (.invokevirtual 73, 3) := by decide +kernel
theorem dL_step_15 : decode cL_step 15 = .ok (.astore 5, 2) := by decide +kernel
theorem dL_step_17 : decode cL_step 17 = .ok (.iconst 1, 1) := by decide +kernel
theorem dL_step_18 : decode cL_step 18 = .ok (.ireturn, 1) := by decide +kernel
theorem dL_step_19 : decode cL_step 19 = .ok (.astore 5, 2) := by decide +kernel
theorem dL_step_21 : decode cL_step 21 = .ok (.iconst 2, 1) := by decide +kernel
theorem dL_step_22 : decode cL_step 22 = .ok (.ireturn, 1) := by decide +kernel
abbrev cL_turn : ByteArray := method_20_code
def yL_turn : MethodName := ⟨RL, "turn", "(LChainwork;I[J)I"⟩
theorem dL_turn_0 : decode cL_turn 0 = .ok (.aload_n 2, 1) := by decide +kernel
theorem dL_turn_1 : decode cL_turn 1 = .ok (.iconst 0, 1) := by decide +kernel
theorem dL_turn_2 : decode cL_turn 2 = .ok (.aload_n 0, 1) := by decide +kernel
theorem dL_turn_3 : decode cL_turn 3 = .ok (.iload_n 1, 1) := by decide +kernel
theorem zw_660 : Cond.methodLink RL 76 yX11_turn ∈ zT := zT_of 1202 (by decide +kernel) (by decide +kernel)
theorem zw_661 : Cond.instanceMethod yX11_turn ∈ zT := zT_of 1203 (by decide +kernel) (by decide +kernel)
theorem zw_662 : Cond.selects RX11 yX11_turn yX11_turn ∈ zT := zT_of 1204 (by decide +kernel) (by decide +kernel)
theorem zw_663 : Cond.code yX11_turn cX11_turn 2 (some .int) ∈ zT := zT_of 1205 (by decide +kernel) (by decide +kernel)
theorem dL_turn_4 : decode cL_turn 4 = .ok (.invokevirtual 76, 3) := by decide +kernel
theorem dL_turn_12 : decode cL_turn 12 = .ok (.astore_n 3, 1) := by decide +kernel
theorem dL_turn_13 : decode cL_turn 13 = .ok (.iconst 1, 1) := by decide +kernel
theorem dL_turn_14 : decode cL_turn 14 = .ok (.ireturn, 1) := by decide +kernel
theorem dL_turn_7 : decode cL_turn 7 = .ok (.i2l, 1) := by decide +kernel
theorem dL_turn_8 : decode cL_turn 8 = .ok (.lastore, 1) := by decide +kernel
theorem dL_turn_9 : decode cL_turn 9 = .ok (.goto 6, 3) := by decide +kernel
theorem dL_turn_15 : decode cL_turn 15 = .ok (.iconst 0, 1) := by decide +kernel
theorem dL_turn_16 : decode cL_turn 16 = .ok (.ireturn, 1) := by decide +kernel
abbrev cL_join : ByteArray := method_21_code
def yL_join : MethodName := ⟨RL, "join", "(LChainwork;III[J)I"⟩
theorem dL_join_0 : decode cL_join 0 = .ok (.aload 4, 2) := by decide +kernel
theorem dL_join_2 : decode cL_join 2 = .ok (.iconst 0, 1) := by decide +kernel
theorem dL_join_3 : decode cL_join 3 = .ok (.aload_n 0, 1) := by decide +kernel
theorem dL_join_4 : decode cL_join 4 = .ok (.iload_n 1, 1) := by decide +kernel
theorem dL_join_5 : decode cL_join 5 = .ok (.iload_n 2, 1) := by decide +kernel
theorem dL_join_6 : decode cL_join 6 = .ok (.iload_n 3, 1) := by decide +kernel
theorem zw_664 : Cond.methodLink RL 79 yX11_join ∈ zT := zT_of 1213 (by decide +kernel) (by decide +kernel)
theorem zw_665 : Cond.instanceMethod yX11_join ∈ zT := zT_of 1214 (by decide +kernel) (by decide +kernel)
theorem zw_666 : Cond.selects RX11 yX11_join yX11_join ∈ zT := zT_of 1215 (by decide +kernel) (by decide +kernel)
theorem zw_667 : Cond.code yX11_join cX11_join 6 (some .int) ∈ zT := zT_of 1216 (by decide +kernel) (by decide +kernel)
theorem dL_join_7 : decode cL_join 7 = .ok (.invokevirtual 79, 3) := by decide +kernel
theorem dL_join_15 : decode cL_join 15 = .ok (.astore 5, 2) := by decide +kernel
theorem dL_join_17 : decode cL_join 17 = .ok (.iconst 1, 1) := by decide +kernel
theorem dL_join_18 : decode cL_join 18 = .ok (.ireturn, 1) := by decide +kernel
theorem dL_join_19 : decode cL_join 19 = .ok (.astore 5, 2) := by decide +kernel
theorem dL_join_21 : decode cL_join 21 = .ok (.iconst 2, 1) := by decide +kernel
theorem dL_join_22 : decode cL_join 22 = .ok (.ireturn, 1) := by decide +kernel
abbrev cL_cut : ByteArray := method_22_code
def yL_cut : MethodName := ⟨RL, "cut", "(LChainwork;IIII[J)I"⟩
theorem dL_cut_0 : decode cL_cut 0 = .ok (.aload 5, 2) := by decide +kernel
theorem dL_cut_2 : decode cL_cut 2 = .ok (.iconst 0, 1) := by decide +kernel
theorem dL_cut_3 : decode cL_cut 3 = .ok (.aload_n 0, 1) := by decide +kernel
theorem dL_cut_4 : decode cL_cut 4 = .ok (.iload_n 1, 1) := by decide +kernel
theorem dL_cut_5 : decode cL_cut 5 = .ok (.iload_n 2, 1) := by decide +kernel
theorem dL_cut_6 : decode cL_cut 6 = .ok (.iload_n 3, 1) := by decide +kernel
theorem dL_cut_7 : decode cL_cut 7 = .ok (.iload 4, 2) := by decide +kernel
theorem zw_668 : Cond.methodLink RL 82 yX11_cut ∈ zT := zT_of 1227 (by decide +kernel) (by decide +kernel)
theorem zw_669 : Cond.instanceMethod yX11_cut ∈ zT := zT_of 1228 (by decide +kernel) (by decide +kernel)
theorem zw_670 : Cond.selects RX11 yX11_cut yX11_cut ∈ zT := zT_of 1229 (by decide +kernel) (by decide +kernel)
theorem zw_671 : Cond.code yX11_cut cX11_cut 5 (some .int) ∈ zT := zT_of 1230 (by decide +kernel) (by decide +kernel)
theorem dL_cut_9 : decode cL_cut 9 = .ok (.invokevirtual 82, 3) := by decide +kernel
theorem dL_cut_17 : decode cL_cut 17 = .ok (.astore 6, 2) := by decide +kernel
theorem dL_cut_19 : decode cL_cut 19 = .ok (.iconst 1, 1) := by decide +kernel
theorem dL_cut_20 : decode cL_cut 20 = .ok (.ireturn, 1) := by decide +kernel
abbrev cL_take : ByteArray := method_23_code
def yL_take : MethodName := ⟨RL, "take", "(LChainwork;III[J)I"⟩
theorem dL_take_0 : decode cL_take 0 = .ok (.aload 4, 2) := by decide +kernel
theorem dL_take_2 : decode cL_take 2 = .ok (.iconst 0, 1) := by decide +kernel
theorem dL_take_3 : decode cL_take 3 = .ok (.aload_n 0, 1) := by decide +kernel
theorem dL_take_4 : decode cL_take 4 = .ok (.iload_n 1, 1) := by decide +kernel
theorem dL_take_5 : decode cL_take 5 = .ok (.iload_n 2, 1) := by decide +kernel
theorem dL_take_6 : decode cL_take 6 = .ok (.iload_n 3, 1) := by decide +kernel
theorem zw_672 : Cond.methodLink RL 85 yX11_take ∈ zT := zT_of 1236 (by decide +kernel) (by decide +kernel)
theorem zw_673 : Cond.instanceMethod yX11_take ∈ zT := zT_of 1237 (by decide +kernel) (by decide +kernel)
theorem zw_674 : Cond.selects RX11 yX11_take yX11_take ∈ zT := zT_of 1238 (by decide +kernel) (by decide +kernel)
theorem zw_675 : Cond.code yX11_take cX11_take 5 (some .int) ∈ zT := zT_of 1239 (by decide +kernel) (by decide +kernel)
theorem dL_take_7 : decode cL_take 7 = .ok (.invokevirtual 85, 3) := by decide +kernel
theorem dL_take_15 : decode cL_take 15 = .ok (.astore 5, 2) := by decide +kernel
theorem dL_take_17 : decode cL_take 17 = .ok (.iconst 1, 1) := by decide +kernel
theorem dL_take_18 : decode cL_take 18 = .ok (.ireturn, 1) := by decide +kernel
abbrev cL_find : ByteArray := method_24_code
def yL_find : MethodName := ⟨RL, "find", "(LChainwork;IIIII[J)I"⟩
theorem dL_find_0 : decode cL_find 0 = .ok (.aload 6, 2) := by decide +kernel
theorem dL_find_2 : decode cL_find 2 = .ok (.iconst 0, 1) := by decide +kernel
theorem dL_find_3 : decode cL_find 3 = .ok (.aload_n 0, 1) := by decide +kernel
theorem dL_find_4 : decode cL_find 4 = .ok (.iload_n 1, 1) := by decide +kernel
theorem dL_find_5 : decode cL_find 5 = .ok (.iload_n 2, 1) := by decide +kernel
theorem dL_find_6 : decode cL_find 6 = .ok (.iload_n 3, 1) := by decide +kernel
theorem dL_find_7 : decode cL_find 7 = .ok (.iload 4, 2) := by decide +kernel
theorem dL_find_9 : decode cL_find 9 = .ok (.iload 5, 2) := by decide +kernel
theorem zw_676 : Cond.methodLink RL 88 yX11_find ∈ zT := zT_of 1243 (by decide +kernel) (by decide +kernel)
theorem zw_677 : Cond.instanceMethod yX11_find ∈ zT := zT_of 1244 (by decide +kernel) (by decide +kernel)
theorem zw_678 : Cond.selects RX11 yX11_find yX11_find ∈ zT := zT_of 1245 (by decide +kernel) (by decide +kernel)
theorem zw_679 : Cond.code yX11_find cX11_find 7 (some .int) ∈ zT := zT_of 1246 (by decide +kernel) (by decide +kernel)
theorem dL_find_11 : decode cL_find 11 = .ok (.invokevirtual 88, 3) := by decide +kernel
theorem dL_find_19 : decode cL_find 19 = .ok (.astore 7, 2) := by decide +kernel
theorem dL_find_21 : decode cL_find 21 = .ok (.iconst 1, 1) := by decide +kernel
theorem dL_find_22 : decode cL_find 22 = .ok (.ireturn, 1) := by decide +kernel
theorem dL_find_23 : decode cL_find 23 = .ok (.astore 7, 2) := by decide +kernel
theorem dL_find_25 : decode cL_find 25 = .ok (.iconst 2, 1) := by decide +kernel
theorem dL_find_26 : decode cL_find 26 = .ok (.ireturn, 1) := by decide +kernel
theorem dL_find_27 : decode cL_find 27 = .ok (.astore 7, 2) := by decide +kernel
theorem dL_find_29 : decode cL_find 29 = .ok (.iconst 3, 1) := by decide +kernel
theorem dL_find_30 : decode cL_find 30 = .ok (.ireturn, 1) := by decide +kernel
abbrev cL_restore : ByteArray := method_25_code
def yL_restore : MethodName := ⟨RL, "restore", "(LChainwork;I[J)I"⟩
theorem dL_restore_0 : decode cL_restore 0 = .ok (.aload_n 2, 1) := by decide +kernel
theorem dL_restore_1 : decode cL_restore 1 = .ok (.iconst 0, 1) := by decide +kernel
theorem dL_restore_2 : decode cL_restore 2 = .ok (.aload_n 0, 1) := by decide +kernel
theorem dL_restore_3 : decode cL_restore 3 = .ok (.iload_n 1, 1) := by decide +kernel
theorem zw_680 : Cond.methodLink RL 91 yX11_restore ∈ zT := zT_of 1301 (by decide +kernel) (by decide +kernel)
theorem zw_681 : Cond.instanceMethod yX11_restore ∈ zT := zT_of 1302 (by decide +kernel) (by decide +kernel)
theorem zw_682 : Cond.selects RX11 yX11_restore yX11_restore ∈ zT := zT_of 1303 (by decide +kernel) (by decide +kernel)
theorem zw_683 : Cond.code yX11_restore cX11_restore 2 (some .int) ∈ zT := zT_of 1304 (by decide +kernel) (by decide +kernel)
theorem dL_restore_4 : decode cL_restore 4 = .ok (.invokevirtual 91, 3) := by decide +kernel
theorem dL_restore_12 : decode cL_restore 12 = .ok (.astore_n 3, 1) := by decide +kernel
theorem dL_restore_13 : decode cL_restore 13 = .ok (.iconst 1, 1) := by decide +kernel
theorem dL_restore_14 : decode cL_restore 14 = .ok (.ireturn, 1) := by decide +kernel
theorem dL_restore_15 : decode cL_restore 15 = .ok (.astore_n 3, 1) := by decide +kernel
theorem dL_restore_16 : decode cL_restore 16 = .ok (.iconst 2, 1) := by decide +kernel
theorem dL_restore_17 : decode cL_restore 17 = .ok (.ireturn, 1) := by decide +kernel
abbrev cL_undo : ByteArray := method_26_code
def yL_undo : MethodName := ⟨RL, "undo", "(LChainwork;[J)I"⟩
theorem dL_undo_0 : decode cL_undo 0 = .ok (.aload_n 1, 1) := by decide +kernel
theorem dL_undo_1 : decode cL_undo 1 = .ok (.iconst 0, 1) := by decide +kernel
theorem dL_undo_2 : decode cL_undo 2 = .ok (.aload_n 0, 1) := by decide +kernel
theorem zw_684 : Cond.methodLink RL 94 yX11_undo ∈ zT := zT_of 1309 (by decide +kernel) (by decide +kernel)
theorem zw_685 : Cond.instanceMethod yX11_undo ∈ zT := zT_of 1310 (by decide +kernel) (by decide +kernel)
theorem zw_686 : Cond.selects RX11 yX11_undo yX11_undo ∈ zT := zT_of 1311 (by decide +kernel) (by decide +kernel)
theorem zw_687 : Cond.code yX11_undo cX11_undo 1 (some .int) ∈ zT := zT_of 1312 (by decide +kernel) (by decide +kernel)
theorem dL_undo_3 : decode cL_undo 3 = .ok (.invokevirtual 94, 3) := by decide +kernel
theorem dL_undo_11 : decode cL_undo 11 = .ok (.astore_n 2, 1) := by decide +kernel
theorem dL_undo_12 : decode cL_undo 12 = .ok (.iconst 1, 1) := by decide +kernel
theorem dL_undo_13 : decode cL_undo 13 = .ok (.ireturn, 1) := by decide +kernel
abbrev cL_image : ByteArray := method_27_code
def yL_image : MethodName := ⟨RL, "image", "(LChainwork;I[J)I"⟩
theorem dL_image_0 : decode cL_image 0 = .ok (.aload_n 2, 1) := by decide +kernel
theorem dL_image_1 : decode cL_image 1 = .ok (.iconst 0, 1) := by decide +kernel
theorem dL_image_2 : decode cL_image 2 = .ok (.aload_n 0, 1) := by decide +kernel
theorem dL_image_3 : decode cL_image 3 = .ok (.iload_n 1, 1) := by decide +kernel
theorem zw_688 : Cond.methodLink RL 97 yX11_image ∈ zT := zT_of 1317 (by decide +kernel) (by decide +kernel)
theorem zw_689 : Cond.instanceMethod yX11_image ∈ zT := zT_of 1318 (by decide +kernel) (by decide +kernel)
theorem zw_690 : Cond.selects RX11 yX11_image yX11_image ∈ zT := zT_of 1319 (by decide +kernel) (by decide +kernel)
theorem zw_691 : Cond.code yX11_image cX11_image 3 (some .boolean) ∈ zT := zT_of 1320 (by decide +kernel) (by decide +kernel)
theorem dL_image_4 : decode cL_image 4 = .ok (.invokevirtual 97, 3) := by decide +kernel
theorem dL_image_19 : decode cL_image 19 = .ok (.astore_n 3, 1) := by decide +kernel
theorem dL_image_20 : decode cL_image 20 = .ok (.iconst 1, 1) := by decide +kernel
theorem dL_image_21 : decode cL_image 21 = .ok (.ireturn, 1) := by decide +kernel
theorem dL_image_7 : decode cL_image 7 = .ok (.ifCond .eq 7, 3) := by decide +kernel
theorem dL_image_14 : decode cL_image 14 = .ok (.lconst 0, 1) := by decide +kernel
theorem dL_image_15 : decode cL_image 15 = .ok (.lastore, 1) := by decide +kernel
theorem dL_image_16 : decode cL_image 16 = .ok (.goto 6, 3) := by decide +kernel
theorem dL_image_22 : decode cL_image 22 = .ok (.iconst 0, 1) := by decide +kernel
theorem dL_image_23 : decode cL_image 23 = .ok (.ireturn, 1) := by decide +kernel
abbrev cL_type : ByteArray := method_28_code
def yL_type : MethodName := ⟨RL, "type", "(LChainwork;J[J)I"⟩
theorem dL_type_0 : decode cL_type 0 = .ok (.aload_n 3, 1) := by decide +kernel
theorem dL_type_1 : decode cL_type 1 = .ok (.iconst 0, 1) := by decide +kernel
theorem dL_type_2 : decode cL_type 2 = .ok (.aload_n 0, 1) := by decide +kernel
theorem dL_type_3 : decode cL_type 3 = .ok (.lload_n 1, 1) := by decide +kernel
theorem zw_692 : Cond.methodLink RL 101 yX11_type ∈ zT := zT_of 1324 (by decide +kernel) (by decide +kernel)
theorem zw_693 : Cond.instanceMethod yX11_type ∈ zT := zT_of 1325 (by decide +kernel) (by decide +kernel)
theorem zw_694 : Cond.selects RX11 yX11_type yX11_type ∈ zT := zT_of 1326 (by decide +kernel) (by decide +kernel)
theorem zw_695 : Cond.code yX11_type cX11_type 6 (some .int) ∈ zT := zT_of 1327 (by decide +kernel) (by decide +kernel)
theorem dL_type_4 : decode cL_type 4 = .ok (.invokevirtual 101, 3) := by decide +kernel
theorem dL_type_7 : decode cL_type 7 = .ok (.i2l, 1) := by decide +kernel
theorem dL_type_8 : decode cL_type 8 = .ok (.lastore, 1) := by decide +kernel
theorem dL_type_9 : decode cL_type 9 = .ok (.goto 7, 3) := by decide +kernel
theorem dL_type_16 : decode cL_type 16 = .ok (.iconst 0, 1) := by decide +kernel
theorem dL_type_17 : decode cL_type 17 = .ok (.ireturn, 1) := by decide +kernel
abbrev cL_write : ByteArray := method_29_code
def yL_write : MethodName := ⟨RL, "write", "(LChainwork;I[J)I"⟩
theorem dL_write_0 : decode cL_write 0 = .ok (.aload_n 2, 1) := by decide +kernel
theorem dL_write_1 : decode cL_write 1 = .ok (.iconst 0, 1) := by decide +kernel
theorem dL_write_2 : decode cL_write 2 = .ok (.aload_n 0, 1) := by decide +kernel
theorem dL_write_3 : decode cL_write 3 = .ok (.iload_n 1, 1) := by decide +kernel
theorem zw_696 : Cond.methodLink RL 105 yX11_write ∈ zT := zT_of 1337 (by decide +kernel) (by decide +kernel)
theorem zw_697 : Cond.instanceMethod yX11_write ∈ zT := zT_of 1338 (by decide +kernel) (by decide +kernel)
theorem zw_698 : Cond.selects RX11 yX11_write yX11_write ∈ zT := zT_of 1339 (by decide +kernel) (by decide +kernel)
theorem zw_699 : Cond.code yX11_write cX11_write 3 (some .int) ∈ zT := zT_of 1340 (by decide +kernel) (by decide +kernel)
theorem dL_write_4 : decode cL_write 4 = .ok (.invokevirtual 105, 3) := by decide +kernel
theorem dL_write_12 : decode cL_write 12 = .ok (.astore_n 3, 1) := by decide +kernel
theorem dL_write_13 : decode cL_write 13 = .ok (.iconst 1, 1) := by decide +kernel
theorem dL_write_14 : decode cL_write 14 = .ok (.ireturn, 1) := by decide +kernel
theorem dL_write_15 : decode cL_write 15 = .ok (.astore_n 3, 1) := by decide +kernel
theorem dL_write_16 : decode cL_write 16 = .ok (.iconst 2, 1) := by decide +kernel
theorem dL_write_17 : decode cL_write 17 = .ok (.ireturn, 1) := by decide +kernel
abbrev cL_writeLaw : ByteArray := method_30_code
def yL_writeLaw : MethodName := ⟨RL, "writeLaw", "(LChainwork;I[J)I"⟩
theorem dL_writeLaw_0 : decode cL_writeLaw 0 = .ok (.aload_n 2, 1) := by decide +kernel
theorem dL_writeLaw_1 : decode cL_writeLaw 1 = .ok (.iconst 0, 1) := by decide +kernel
theorem dL_writeLaw_2 : decode cL_writeLaw 2 = .ok (.aload_n 0, 1) := by decide +kernel
theorem dL_writeLaw_3 : decode cL_writeLaw 3 = .ok (.iload_n 1, 1) := by decide +kernel
theorem zw_700 : Cond.methodLink RL 108 yX11_writeLaw ∈ zT := zT_of 1355 (by decide +kernel) (by decide +kernel)
theorem zw_701 : Cond.instanceMethod yX11_writeLaw ∈ zT := zT_of 1356 (by decide +kernel) (by decide +kernel)
theorem zw_702 : Cond.selects RX11 yX11_writeLaw yX11_writeLaw ∈ zT := zT_of 1357 (by decide +kernel) (by decide +kernel)
theorem zw_703 : Cond.code yX11_writeLaw cX11_writeLaw 3 (some .int) ∈ zT := zT_of 1358 (by decide +kernel) (by decide +kernel)
theorem dL_writeLaw_4 : decode cL_writeLaw 4 = .ok (.invokevirtual 108, 3) := by decide +kernel
theorem dL_writeLaw_12 : decode cL_writeLaw 12 = .ok (.astore_n 3, 1) := by decide +kernel
theorem dL_writeLaw_13 : decode cL_writeLaw 13 = .ok (.iconst 1, 1) := by decide +kernel
theorem dL_writeLaw_14 : decode cL_writeLaw 14 = .ok (.ireturn, 1) := by decide +kernel
abbrev cL_outputAt : ByteArray := method_31_code
def yL_outputAt : MethodName := ⟨RL, "outputAt", "(LChainwork;I[J)I"⟩
theorem dL_outputAt_0 : decode cL_outputAt 0 = .ok (.aload_n 2, 1) := by decide +kernel
theorem dL_outputAt_1 : decode cL_outputAt 1 = .ok (.iconst 0, 1) := by decide +kernel
theorem dL_outputAt_2 : decode cL_outputAt 2 = .ok (.aload_n 0, 1) := by decide +kernel
theorem dL_outputAt_3 : decode cL_outputAt 3 = .ok (.iload_n 1, 1) := by decide +kernel
theorem zw_704 : Cond.methodLink RL 111 yX11_outputAt ∈ zT := zT_of 1368 (by decide +kernel) (by decide +kernel)
theorem zw_705 : Cond.instanceMethod yX11_outputAt ∈ zT := zT_of 1369 (by decide +kernel) (by decide +kernel)
theorem zw_706 : Cond.selects RX11 yX11_outputAt yX11_outputAt ∈ zT := zT_of 1370 (by decide +kernel) (by decide +kernel)
theorem zw_707 : Cond.code yX11_outputAt cX11_outputAt 2 (some .int) ∈ zT := zT_of 1371 (by decide +kernel) (by decide +kernel)
theorem dL_outputAt_4 : decode cL_outputAt 4 = .ok (.invokevirtual 111, 3) := by decide +kernel
theorem dL_outputAt_12 : decode cL_outputAt 12 = .ok (.astore_n 3, 1) := by decide +kernel
theorem dL_outputAt_13 : decode cL_outputAt 13 = .ok (.iconst 1, 1) := by decide +kernel
theorem dL_outputAt_14 : decode cL_outputAt 14 = .ok (.ireturn, 1) := by decide +kernel
abbrev cL_termAt : ByteArray := method_32_code
def yL_termAt : MethodName := ⟨RL, "termAt", "(LChainwork;II[J)I"⟩
theorem dL_termAt_0 : decode cL_termAt 0 = .ok (.aload_n 3, 1) := by decide +kernel
theorem dL_termAt_1 : decode cL_termAt 1 = .ok (.iconst 0, 1) := by decide +kernel
theorem dL_termAt_2 : decode cL_termAt 2 = .ok (.aload_n 0, 1) := by decide +kernel
theorem dL_termAt_3 : decode cL_termAt 3 = .ok (.iload_n 1, 1) := by decide +kernel
theorem dL_termAt_4 : decode cL_termAt 4 = .ok (.iload_n 2, 1) := by decide +kernel
theorem zw_708 : Cond.methodLink RL 114 yX11_termAt ∈ zT := zT_of 1376 (by decide +kernel) (by decide +kernel)
theorem zw_709 : Cond.instanceMethod yX11_termAt ∈ zT := zT_of 1377 (by decide +kernel) (by decide +kernel)
theorem zw_710 : Cond.selects RX11 yX11_termAt yX11_termAt ∈ zT := zT_of 1378 (by decide +kernel) (by decide +kernel)
theorem zw_711 : Cond.code yX11_termAt cX11_termAt 4 (some .int) ∈ zT := zT_of 1379 (by decide +kernel) (by decide +kernel)
theorem dL_termAt_5 : decode cL_termAt 5 = .ok (.invokevirtual 114, 3) := by decide +kernel
theorem dL_termAt_13 : decode cL_termAt 13 = .ok (.astore 4, 2) := by decide +kernel
theorem dL_termAt_15 : decode cL_termAt 15 = .ok (.iconst 1, 1) := by decide +kernel
theorem dL_termAt_16 : decode cL_termAt 16 = .ok (.ireturn, 1) := by decide +kernel
theorem dL_termAt_17 : decode cL_termAt 17 = .ok (.astore 4, 2) := by decide +kernel
theorem dL_termAt_19 : decode cL_termAt 19 = .ok (.iconst 2, 1) := by decide +kernel
theorem dL_termAt_20 : decode cL_termAt 20 = .ok (.ireturn, 1) := by decide +kernel
theorem dL_termAt_8 : decode cL_termAt 8 = .ok (.i2l, 1) := by decide +kernel
theorem dL_termAt_9 : decode cL_termAt 9 = .ok (.lastore, 1) := by decide +kernel
theorem dL_termAt_10 : decode cL_termAt 10 = .ok (.goto 11, 3) := by decide +kernel
theorem dL_termAt_21 : decode cL_termAt 21 = .ok (.iconst 0, 1) := by decide +kernel
theorem dL_termAt_22 : decode cL_termAt 22 = .ok (.ireturn, 1) := by decide +kernel
abbrev cL_areSame : ByteArray := method_33_code
def yL_areSame : MethodName := ⟨RL, "areSame", "(LChainwork;II[J)I"⟩
theorem dL_areSame_0 : decode cL_areSame 0 = .ok (.aload_n 3, 1) := by decide +kernel
theorem dL_areSame_1 : decode cL_areSame 1 = .ok (.iconst 0, 1) := by decide +kernel
theorem dL_areSame_2 : decode cL_areSame 2 = .ok (.aload_n 0, 1) := by decide +kernel
theorem dL_areSame_3 : decode cL_areSame 3 = .ok (.iload_n 1, 1) := by decide +kernel
theorem dL_areSame_4 : decode cL_areSame 4 = .ok (.iload_n 2, 1) := by decide +kernel
theorem zw_712 : Cond.methodLink RL 117 yX11_areSame ∈ zT := zT_of 1389 (by decide +kernel) (by decide +kernel)
theorem zw_713 : Cond.instanceMethod yX11_areSame ∈ zT := zT_of 1390 (by decide +kernel) (by decide +kernel)
theorem zw_714 : Cond.selects RX11 yX11_areSame yX11_areSame ∈ zT := zT_of 1391 (by decide +kernel) (by decide +kernel)
theorem zw_715 : Cond.code yX11_areSame cX11_areSame 5 (some .boolean) ∈ zT := zT_of 1392 (by decide +kernel) (by decide +kernel)
theorem dL_areSame_5 : decode cL_areSame 5 = .ok (.invokevirtual 117, 3) := by decide +kernel
theorem dL_areSame_20 : decode cL_areSame 20 = .ok (.astore 4, 2) := by decide +kernel
theorem dL_areSame_22 : decode cL_areSame 22 = .ok (.iconst 1, 1) := by decide +kernel
theorem dL_areSame_23 : decode cL_areSame 23 = .ok (.ireturn, 1) := by decide +kernel
theorem dL_areSame_8 : decode cL_areSame 8 = .ok (.ifCond .eq 7, 3) := by decide +kernel
theorem dL_areSame_15 : decode cL_areSame 15 = .ok (.lconst 0, 1) := by decide +kernel
theorem dL_areSame_16 : decode cL_areSame 16 = .ok (.lastore, 1) := by decide +kernel
theorem dL_areSame_17 : decode cL_areSame 17 = .ok (.goto 7, 3) := by decide +kernel
theorem dL_areSame_24 : decode cL_areSame 24 = .ok (.iconst 0, 1) := by decide +kernel
theorem dL_areSame_25 : decode cL_areSame 25 = .ok (.ireturn, 1) := by decide +kernel
abbrev cL_direction : ByteArray := method_34_code
def yL_direction : MethodName := ⟨RL, "direction", "(LChainwork;II[J)I"⟩
theorem dL_direction_0 : decode cL_direction 0 = .ok (.aload_n 3, 1) := by decide +kernel
theorem dL_direction_1 : decode cL_direction 1 = .ok (.iconst 0, 1) := by decide +kernel
theorem dL_direction_2 : decode cL_direction 2 = .ok (.aload_n 0, 1) := by decide +kernel
theorem dL_direction_3 : decode cL_direction 3 = .ok (.iload_n 1, 1) := by decide +kernel
theorem dL_direction_4 : decode cL_direction 4 = .ok (.iload_n 2, 1) := by decide +kernel
theorem zw_716 : Cond.methodLink RL 121 yX11_direction ∈ zT := zT_of 1396 (by decide +kernel) (by decide +kernel)
theorem zw_717 : Cond.instanceMethod yX11_direction ∈ zT := zT_of 1397 (by decide +kernel) (by decide +kernel)
theorem zw_718 : Cond.selects RX11 yX11_direction yX11_direction ∈ zT := zT_of 1398 (by decide +kernel) (by decide +kernel)
theorem zw_719 : Cond.code yX11_direction cX11_direction 4 (some .int) ∈ zT := zT_of 1399 (by decide +kernel) (by decide +kernel)
theorem dL_direction_5 : decode cL_direction 5 = .ok (.invokevirtual 121, 3) := by decide +kernel
theorem dL_direction_13 : decode cL_direction 13 = .ok (.astore 4, 2) := by decide +kernel
theorem dL_direction_15 : decode cL_direction 15 = .ok (.iconst 1, 1) := by decide +kernel
theorem dL_direction_16 : decode cL_direction 16 = .ok (.ireturn, 1) := by decide +kernel
theorem dL_direction_17 : decode cL_direction 17 = .ok (.astore 4, 2) := by decide +kernel
theorem dL_direction_19 : decode cL_direction 19 = .ok (.iconst 2, 1) := by decide +kernel
theorem dL_direction_20 : decode cL_direction 20 = .ok (.ireturn, 1) := by decide +kernel
abbrev cL_lawAt : ByteArray := method_35_code
def yL_lawAt : MethodName := ⟨RL, "lawAt", "(LChainwork;II[J)I"⟩
theorem dL_lawAt_0 : decode cL_lawAt 0 = .ok (.aload_n 3, 1) := by decide +kernel
theorem dL_lawAt_1 : decode cL_lawAt 1 = .ok (.iconst 0, 1) := by decide +kernel
theorem dL_lawAt_2 : decode cL_lawAt 2 = .ok (.aload_n 0, 1) := by decide +kernel
theorem dL_lawAt_3 : decode cL_lawAt 3 = .ok (.iload_n 1, 1) := by decide +kernel
theorem dL_lawAt_4 : decode cL_lawAt 4 = .ok (.iload_n 2, 1) := by decide +kernel
theorem zw_720 : Cond.methodLink RL 124 yX11_lawAt ∈ zT := zT_of 1403 (by decide +kernel) (by decide +kernel)
theorem zw_721 : Cond.instanceMethod yX11_lawAt ∈ zT := zT_of 1404 (by decide +kernel) (by decide +kernel)
theorem zw_722 : Cond.selects RX11 yX11_lawAt yX11_lawAt ∈ zT := zT_of 1405 (by decide +kernel) (by decide +kernel)
theorem zw_723 : Cond.code yX11_lawAt cX11_lawAt 4 (some .int) ∈ zT := zT_of 1406 (by decide +kernel) (by decide +kernel)
theorem dL_lawAt_5 : decode cL_lawAt 5 = .ok (.invokevirtual 124, 3) := by decide +kernel
theorem dL_lawAt_13 : decode cL_lawAt 13 = .ok (.astore 4, 2) := by decide +kernel
theorem dL_lawAt_15 : decode cL_lawAt 15 = .ok (.iconst 1, 1) := by decide +kernel
theorem dL_lawAt_16 : decode cL_lawAt 16 = .ok (.ireturn, 1) := by decide +kernel
abbrev cL_rests : ByteArray := method_36_code
def yL_rests : MethodName := ⟨RL, "rests", "(LChainwork;II[J)I"⟩
theorem dL_rests_0 : decode cL_rests 0 = .ok (.aload_n 3, 1) := by decide +kernel
theorem dL_rests_1 : decode cL_rests 1 = .ok (.iconst 0, 1) := by decide +kernel
theorem dL_rests_2 : decode cL_rests 2 = .ok (.aload_n 0, 1) := by decide +kernel
theorem dL_rests_3 : decode cL_rests 3 = .ok (.iload_n 1, 1) := by decide +kernel
theorem dL_rests_4 : decode cL_rests 4 = .ok (.iload_n 2, 1) := by decide +kernel
theorem zw_724 : Cond.methodLink RL 127 yX11_rests ∈ zT := zT_of 1416 (by decide +kernel) (by decide +kernel)
theorem zw_725 : Cond.instanceMethod yX11_rests ∈ zT := zT_of 1417 (by decide +kernel) (by decide +kernel)
theorem zw_726 : Cond.selects RX11 yX11_rests yX11_rests ∈ zT := zT_of 1418 (by decide +kernel) (by decide +kernel)
theorem zw_727 : Cond.code yX11_rests cX11_rests 5 (some .boolean) ∈ zT := zT_of 1419 (by decide +kernel) (by decide +kernel)
theorem dL_rests_5 : decode cL_rests 5 = .ok (.invokevirtual 127, 3) := by decide +kernel
theorem dL_rests_20 : decode cL_rests 20 = .ok (.astore 4, 2) := by decide +kernel
theorem dL_rests_22 : decode cL_rests 22 = .ok (.iconst 1, 1) := by decide +kernel
theorem dL_rests_23 : decode cL_rests 23 = .ok (.ireturn, 1) := by decide +kernel
abbrev cL_lines : ByteArray := method_37_code
def yL_lines : MethodName := ⟨RL, "lines", "(LChainwork;I[J)I"⟩
theorem dL_lines_0 : decode cL_lines 0 = .ok (.aload_n 2, 1) := by decide +kernel
theorem dL_lines_1 : decode cL_lines 1 = .ok (.iconst 0, 1) := by decide +kernel
theorem dL_lines_2 : decode cL_lines 2 = .ok (.aload_n 0, 1) := by decide +kernel
theorem dL_lines_3 : decode cL_lines 3 = .ok (.iload_n 1, 1) := by decide +kernel
theorem zw_728 : Cond.methodLink RL 130 yX11_lines ∈ zT := zT_of 1423 (by decide +kernel) (by decide +kernel)
theorem zw_729 : Cond.instanceMethod yX11_lines ∈ zT := zT_of 1424 (by decide +kernel) (by decide +kernel)
theorem zw_730 : Cond.selects RX11 yX11_lines yX11_lines ∈ zT := zT_of 1425 (by decide +kernel) (by decide +kernel)
theorem zw_731 : Cond.code yX11_lines cX11_lines 2 (some .int) ∈ zT := zT_of 1426 (by decide +kernel) (by decide +kernel)
theorem dL_lines_4 : decode cL_lines 4 = .ok (.invokevirtual 130, 3) := by decide +kernel
theorem dL_lines_12 : decode cL_lines 12 = .ok (.astore_n 3, 1) := by decide +kernel
theorem dL_lines_13 : decode cL_lines 13 = .ok (.iconst 1, 1) := by decide +kernel
theorem dL_lines_14 : decode cL_lines 14 = .ok (.ireturn, 1) := by decide +kernel
theorem dL_lines_7 : decode cL_lines 7 = .ok (.i2l, 1) := by decide +kernel
theorem dL_lines_8 : decode cL_lines 8 = .ok (.lastore, 1) := by decide +kernel
theorem dL_lines_9 : decode cL_lines 9 = .ok (.goto 6, 3) := by decide +kernel
theorem dL_lines_15 : decode cL_lines 15 = .ok (.iconst 0, 1) := by decide +kernel
theorem dL_lines_16 : decode cL_lines 16 = .ok (.ireturn, 1) := by decide +kernel
abbrev cL_wrong : ByteArray := method_38_code
def yL_wrong : MethodName := ⟨RL, "wrong", "(LChainwork;I[J)I"⟩
theorem dL_wrong_0 : decode cL_wrong 0 = .ok (.aload_n 2, 1) := by decide +kernel
theorem dL_wrong_1 : decode cL_wrong 1 = .ok (.iconst 0, 1) := by decide +kernel
theorem dL_wrong_2 : decode cL_wrong 2 = .ok (.aload_n 0, 1) := by decide +kernel
theorem dL_wrong_3 : decode cL_wrong 3 = .ok (.iload_n 1, 1) := by decide +kernel
theorem zw_732 : Cond.methodLink RL 133 yX11_wrong ∈ zT := zT_of 1430 (by decide +kernel) (by decide +kernel)
theorem zw_733 : Cond.instanceMethod yX11_wrong ∈ zT := zT_of 1431 (by decide +kernel) (by decide +kernel)
theorem zw_734 : Cond.selects RX11 yX11_wrong yX11_wrong ∈ zT := zT_of 1432 (by decide +kernel) (by decide +kernel)
theorem zw_735 : Cond.code yX11_wrong cX11_wrong 2 (some .int) ∈ zT := zT_of 1433 (by decide +kernel) (by decide +kernel)
theorem dL_wrong_4 : decode cL_wrong 4 = .ok (.invokevirtual 133, 3) := by decide +kernel
theorem dL_wrong_12 : decode cL_wrong 12 = .ok (.astore_n 3, 1) := by decide +kernel
theorem dL_wrong_13 : decode cL_wrong 13 = .ok (.iconst 1, 1) := by decide +kernel
theorem dL_wrong_14 : decode cL_wrong 14 = .ok (.ireturn, 1) := by decide +kernel
theorem dL_wrong_7 : decode cL_wrong 7 = .ok (.i2l, 1) := by decide +kernel
theorem dL_wrong_8 : decode cL_wrong 8 = .ok (.lastore, 1) := by decide +kernel
theorem dL_wrong_9 : decode cL_wrong 9 = .ok (.goto 6, 3) := by decide +kernel
theorem dL_wrong_15 : decode cL_wrong 15 = .ok (.iconst 0, 1) := by decide +kernel
theorem dL_wrong_16 : decode cL_wrong 16 = .ok (.ireturn, 1) := by decide +kernel
abbrev cL_relation : ByteArray := method_39_code
def yL_relation : MethodName := ⟨RL, "relation", "(LChainwork;I[J)I"⟩
theorem dL_relation_0 : decode cL_relation 0 = .ok (.aload_n 2, 1) := by decide +kernel
theorem dL_relation_1 : decode cL_relation 1 = .ok (.iconst 0, 1) := by decide +kernel
theorem dL_relation_2 : decode cL_relation 2 = .ok (.aload_n 0, 1) := by decide +kernel
theorem dL_relation_3 : decode cL_relation 3 = .ok (.iload_n 1, 1) := by decide +kernel
theorem zw_736 : Cond.methodLink RL 136 yX11_relation ∈ zT := zT_of 1437 (by decide +kernel) (by decide +kernel)
theorem zw_737 : Cond.instanceMethod yX11_relation ∈ zT := zT_of 1438 (by decide +kernel) (by decide +kernel)
theorem zw_738 : Cond.selects RX11 yX11_relation yX11_relation ∈ zT := zT_of 1439 (by decide +kernel) (by decide +kernel)
theorem zw_739 : Cond.code yX11_relation cX11_relation 2 (some .int) ∈ zT := zT_of 1440 (by decide +kernel) (by decide +kernel)
theorem dL_relation_4 : decode cL_relation 4 = .ok (.invokevirtual 136, 3) := by decide +kernel
theorem dL_relation_12 : decode cL_relation 12 = .ok (.astore_n 3, 1) := by decide +kernel
theorem dL_relation_13 : decode cL_relation 13 = .ok (.iconst 1, 1) := by decide +kernel
theorem dL_relation_14 : decode cL_relation 14 = .ok (.ireturn, 1) := by decide +kernel
theorem dL_relation_7 : decode cL_relation 7 = .ok (.i2l, 1) := by decide +kernel
theorem dL_relation_8 : decode cL_relation 8 = .ok (.lastore, 1) := by decide +kernel
theorem dL_relation_9 : decode cL_relation 9 = .ok (.goto 6, 3) := by decide +kernel
theorem dL_relation_15 : decode cL_relation 15 = .ok (.iconst 0, 1) := by decide +kernel
theorem dL_relation_16 : decode cL_relation 16 = .ok (.ireturn, 1) := by decide +kernel
abbrev cL_stepAt : ByteArray := method_40_code
def yL_stepAt : MethodName := ⟨RL, "stepAt", "(LChainwork;III[J)I"⟩
theorem dL_stepAt_0 : decode cL_stepAt 0 = .ok (.aload 4, 2) := by decide +kernel
theorem dL_stepAt_2 : decode cL_stepAt 2 = .ok (.iconst 0, 1) := by decide +kernel
theorem dL_stepAt_3 : decode cL_stepAt 3 = .ok (.aload_n 0, 1) := by decide +kernel
theorem dL_stepAt_4 : decode cL_stepAt 4 = .ok (.iload_n 1, 1) := by decide +kernel
theorem dL_stepAt_5 : decode cL_stepAt 5 = .ok (.iload_n 2, 1) := by decide +kernel
theorem dL_stepAt_6 : decode cL_stepAt 6 = .ok (.iload_n 3, 1) := by decide +kernel
theorem zw_740 : Cond.methodLink RL 139 yX11_stepAt ∈ zT := zT_of 1444 (by decide +kernel) (by decide +kernel)
theorem zw_741 : Cond.instanceMethod yX11_stepAt ∈ zT := zT_of 1445 (by decide +kernel) (by decide +kernel)
theorem zw_742 : Cond.selects RX11 yX11_stepAt yX11_stepAt ∈ zT := zT_of 1446 (by decide +kernel) (by decide +kernel)
theorem zw_743 : Cond.code yX11_stepAt cX11_stepAt 6 (some .int) ∈ zT := zT_of 1447 (by decide +kernel) (by decide +kernel)
theorem dL_stepAt_7 : decode cL_stepAt 7 = .ok (.invokevirtual 139, 3) := by decide +kernel
theorem dL_stepAt_15 : decode cL_stepAt 15 = .ok (.astore 5, 2) := by decide +kernel
theorem dL_stepAt_17 : decode cL_stepAt 17 = .ok (.iconst 1, 1) := by decide +kernel
theorem dL_stepAt_18 : decode cL_stepAt 18 = .ok (.ireturn, 1) := by decide +kernel
abbrev cL_needs : ByteArray := method_41_code
def yL_needs : MethodName := ⟨RL, "needs", "(LChainwork;I[J)I"⟩
theorem dL_needs_0 : decode cL_needs 0 = .ok (.aload_n 2, 1) := by decide +kernel
theorem dL_needs_1 : decode cL_needs 1 = .ok (.iconst 0, 1) := by decide +kernel
theorem dL_needs_2 : decode cL_needs 2 = .ok (.aload_n 0, 1) := by decide +kernel
theorem dL_needs_3 : decode cL_needs 3 = .ok (.iload_n 1, 1) := by decide +kernel
theorem zw_744 : Cond.methodLink RL 142 yX11_needs ∈ zT := zT_of 1456 (by decide +kernel) (by decide +kernel)
theorem zw_745 : Cond.instanceMethod yX11_needs ∈ zT := zT_of 1457 (by decide +kernel) (by decide +kernel)
theorem zw_746 : Cond.selects RX11 yX11_needs yX11_needs ∈ zT := zT_of 1458 (by decide +kernel) (by decide +kernel)
theorem zw_747 : Cond.code yX11_needs cX11_needs 2 (some .int) ∈ zT := zT_of 1459 (by decide +kernel) (by decide +kernel)
theorem dL_needs_4 : decode cL_needs 4 = .ok (.invokevirtual 142, 3) := by decide +kernel
theorem dL_needs_12 : decode cL_needs 12 = .ok (.astore_n 3, 1) := by decide +kernel
theorem dL_needs_13 : decode cL_needs 13 = .ok (.iconst 1, 1) := by decide +kernel
theorem dL_needs_14 : decode cL_needs 14 = .ok (.ireturn, 1) := by decide +kernel
theorem dL_needs_7 : decode cL_needs 7 = .ok (.i2l, 1) := by decide +kernel
theorem dL_needs_8 : decode cL_needs 8 = .ok (.lastore, 1) := by decide +kernel
theorem dL_needs_9 : decode cL_needs 9 = .ok (.goto 6, 3) := by decide +kernel
theorem dL_needs_15 : decode cL_needs 15 = .ok (.iconst 0, 1) := by decide +kernel
theorem dL_needs_16 : decode cL_needs 16 = .ok (.ireturn, 1) := by decide +kernel
abbrev cL_fails : ByteArray := method_42_code
def yL_fails : MethodName := ⟨RL, "fails", "(LChainwork;IIII[J)I"⟩
theorem dL_fails_0 : decode cL_fails 0 = .ok (.aload 5, 2) := by decide +kernel
theorem dL_fails_2 : decode cL_fails 2 = .ok (.iconst 0, 1) := by decide +kernel
theorem dL_fails_3 : decode cL_fails 3 = .ok (.aload_n 0, 1) := by decide +kernel
theorem dL_fails_4 : decode cL_fails 4 = .ok (.iload_n 1, 1) := by decide +kernel
theorem dL_fails_5 : decode cL_fails 5 = .ok (.iload_n 2, 1) := by decide +kernel
theorem dL_fails_6 : decode cL_fails 6 = .ok (.iload_n 3, 1) := by decide +kernel
theorem dL_fails_7 : decode cL_fails 7 = .ok (.iload 4, 2) := by decide +kernel
theorem zw_748 : Cond.methodLink RL 145 yX11_fails ∈ zT := zT_of 1467 (by decide +kernel) (by decide +kernel)
theorem zw_749 : Cond.instanceMethod yX11_fails ∈ zT := zT_of 1468 (by decide +kernel) (by decide +kernel)
theorem zw_750 : Cond.selects RX11 yX11_fails yX11_fails ∈ zT := zT_of 1469 (by decide +kernel) (by decide +kernel)
theorem zw_751 : Cond.code yX11_fails cX11_fails 6 (some .int) ∈ zT := zT_of 1470 (by decide +kernel) (by decide +kernel)
theorem dL_fails_9 : decode cL_fails 9 = .ok (.invokevirtual 145, 3) := by decide +kernel
theorem dL_fails_17 : decode cL_fails 17 = .ok (.astore 6, 2) := by decide +kernel
theorem dL_fails_19 : decode cL_fails 19 = .ok (.iconst 1, 1) := by decide +kernel
theorem dL_fails_20 : decode cL_fails 20 = .ok (.ireturn, 1) := by decide +kernel
theorem dL_fails_21 : decode cL_fails 21 = .ok (.astore 6, 2) := by decide +kernel
theorem dL_fails_23 : decode cL_fails 23 = .ok (.iconst 2, 1) := by decide +kernel
theorem dL_fails_24 : decode cL_fails 24 = .ok (.ireturn, 1) := by decide +kernel
abbrev cL_value : ByteArray := method_43_code
def yL_value : MethodName := ⟨RL, "value", "(LChainwork;III[J)I"⟩
theorem dL_value_0 : decode cL_value 0 = .ok (.aload 4, 2) := by decide +kernel
theorem dL_value_2 : decode cL_value 2 = .ok (.iconst 0, 1) := by decide +kernel
theorem dL_value_3 : decode cL_value 3 = .ok (.aload_n 0, 1) := by decide +kernel
theorem dL_value_4 : decode cL_value 4 = .ok (.iload_n 1, 1) := by decide +kernel
theorem dL_value_5 : decode cL_value 5 = .ok (.iload_n 2, 1) := by decide +kernel
theorem dL_value_6 : decode cL_value 6 = .ok (.iload_n 3, 1) := by decide +kernel
theorem zw_752 : Cond.methodLink RL 148 yX11_value ∈ zT := zT_of 1475 (by decide +kernel) (by decide +kernel)
theorem zw_753 : Cond.instanceMethod yX11_value ∈ zT := zT_of 1476 (by decide +kernel) (by decide +kernel)
theorem zw_754 : Cond.selects RX11 yX11_value yX11_value ∈ zT := zT_of 1477 (by decide +kernel) (by decide +kernel)
theorem zw_755 : Cond.code yX11_value cX11_value 5 (some .int) ∈ zT := zT_of 1478 (by decide +kernel) (by decide +kernel)
theorem dL_value_7 : decode cL_value 7 = .ok (.invokevirtual 148, 3) := by decide +kernel
theorem dL_value_15 : decode cL_value 15 = .ok (.astore 5, 2) := by decide +kernel
theorem dL_value_17 : decode cL_value 17 = .ok (.iconst 1, 1) := by decide +kernel
theorem dL_value_18 : decode cL_value 18 = .ok (.ireturn, 1) := by decide +kernel
theorem dL_value_19 : decode cL_value 19 = .ok (.astore 5, 2) := by decide +kernel
theorem dL_value_21 : decode cL_value 21 = .ok (.iconst 2, 1) := by decide +kernel
theorem dL_value_22 : decode cL_value 22 = .ok (.ireturn, 1) := by decide +kernel
theorem zOfWH {l : Launch} {y : MethodName} {ws ws' : List Cond} {rm : Room} {Pc : Array Value → State → Prop} {Qc : Array Value → State → Outcome → State → Prop} {mc ms : Nat} {free : Addr → Prop} {cc : ByteArray} {maxL : Nat} {ret : Option FieldType} {hh : List (Nat × Nat × Nat × Nat)}
    (hy : plainName y.cls = true) (hw : ws = Cond.codeWith y cc maxL ret hh :: ws')
    (body : ∀ p e s m args below meth c s₁, BodyLoose p l y (headSpec ws rm) cc maxL ret e s m args below meth c s₁ → c.maxLocals = maxL → Pc args s →
      W p l e (headSpec ws rm).room s m args below meth c s.heap [] 0 0 (MQ below Qc args s mc ms free) (entryFrame m args maxL)) : Met l y ws rm Pc Qc mc ms free := by
  refine MetFree.of_bodyS (code := cc) (maxLocals := maxL) (ret := ret) hy ?_ ?_
  · intro args s m h hn
    obtain ⟨m9, meth, c, hn9, h1, h2, h3, h4, -, h5, h6, -⟩ := Cond.codeWith_spec (atoms_spec (ws := ws) h _ (by rw [hw]; exact List.mem_cons_self))
    cases hn.symm.trans hn9
    exact ⟨meth, c, h1, h2, h3, h4, h5, h6⟩
  · intro p e s m args below meth c s₁ B hml hP _
    have hh0 : s₁.heap = s.heap := by rw [B.state]; rfl
    obtain ⟨t, a1, o, b1, b2, b3⟩ := body p e s m args below meth c s₁ B hml hP s₁ hh0 (Stand.of_body B)
    exact ⟨t, o, a1, b1, b2, b3⟩
theorem zP_nil {D : va_G} {cl : List vw_C} {H : Heap} : va_P D cl [] H := fun k q h => by simp at h
theorem zD_nil {A : Nat → Prop} : va_D A [] := ⟨fun i j p q h => by simp at h, fun k q h => by simp at h⟩
/-- of the four, none is another -/
def zNcs : List (String × String) := [("java/lang/IllegalArgumentException", "java/lang/IllegalStateException"), ("java/lang/IllegalArgumentException", "java/lang/IndexOutOfBoundsException"), ("java/lang/IllegalArgumentException", "java/util/NoSuchElementException"), ("java/lang/IllegalStateException", "java/lang/IllegalArgumentException"), ("java/lang/IllegalStateException", "java/lang/IndexOutOfBoundsException"), ("java/lang/IllegalStateException", "java/util/NoSuchElementException"), ("java/lang/IndexOutOfBoundsException", "java/lang/IllegalArgumentException"), ("java/lang/IndexOutOfBoundsException", "java/lang/IllegalStateException"), ("java/lang/IndexOutOfBoundsException", "java/util/NoSuchElementException"), ("java/util/NoSuchElementException", "java/lang/IllegalArgumentException"), ("java/util/NoSuchElementException", "java/lang/IllegalStateException"), ("java/util/NoSuchElementException", "java/lang/IndexOutOfBoundsException")]
def zNc (U : State) : Prop := ∀ q ∈ zNcs, va_Nc q.1 q.2 U
theorem zNc.go {s U : State} (hW : s.vm.Alike U.vm) (h : zNc s) : zNc U := fun q hq => (h q hq).moved hW
def zY (D : va_G) (ws : va_W) (tys : List (ClassId × FieldType)) (sz : Nat) : State → Prop := fun U => zNc U ∧ zW D ws tys sz U
theorem zY_fb (av : List Value) (D : va_G) (ws : va_W) (tys : List (ClassId × FieldType)) (sz : Nat) : FrameBlind (va_Pc av (zY D ws tys sz)) := fun a U g mk q => by
  obtain ⟨q0, qN, q1⟩ := q
  obtain ⟨-, h⟩ := zW_fb av D ws tys sz a U g mk ⟨q0, q1⟩
  exact ⟨q0, qN.go (U := U.calling g mk a) (Vm.Alike.refl U.vm), h⟩
theorem zY_S {s : State} {H : Heap} {locs : List Loc} {As : List Value} {D : va_G} {ws : va_W} {tys : List (ClassId × FieldType)} {A : Nat → Prop} (hN : zNc s) (hx : zEx A s) (hS : va_S A s.heap H locs) (hF : ∀ q, va_A ws H.size q → A q) (hP : va_P D vwCl ws H) (hK : va_K D vwCl tys s) (hD : va_D A ws) : PreS s H (va_Pc As (zY D ws tys H.size)) As :=
  ⟨zY_fb _ _ _ _ _, fun U hU hW => ⟨rfl, hN.go hW.alike, hx.go hS hF hU hW, by rw [hU], by rw [hU]; exact hP, va_K.moved hW.alike hK, hD.weaken (fun _ _ _ _ => trivial)⟩⟩

set_option maxHeartbeats 4000000 in
set_option maxRecDepth 100000 in
theorem k_L_sign (l : Launch) (hl0 : l.stackTraces = false) (sz : Nat) (D : va_G) (h cs : Nat → Nat) (p0 p1 p2 : Int32) (fn : Nat → Option Nat) (hn : ∀ k : Nat, k < 4 → fn k = some (h 8)) (fp f0 : Nat → Option Nat) (hp : fp 0 = some (h 10)) (o : Nat) (cL : ClassId) : Met l yL_sign (.codeWith yL_sign cL_sign 6 (some .int) [(0, 12, 15, 13), (0, 12, 19, 15)] :: zT) ({ frames := 8, cells := 4, slots := 21, locals := 135 }) (va_Pc [.ref (h 0), .int p0, .int p1, .int p2, .ref o] (zY D [((h 0), .inr (11, [.ref (h 1), .ref (h 9), .int 0, .int 0, .ref (h 20), .ref (h 37), .int 0, .ref (h 38), .ref (h 42), .ref (h 43), .ref (h 44), .ref (h 45), .ref (h 46), .ref (h 47), .ref (h 48)])), ((h 1), .inr (8, [.ref (h 2), .int 0, .ref (h 3), .ref (h 4), .int 0, .ref (h 5), .int 0, .ref (h 6), .int 0, .ref (h 7), .int 0])), ((h 2), .inl ((cs 7), 4, .inr (.inr (.inr (.inr (fun _ => none)))))), ((h 3), .inl ((cs 9), 10, .inr (.inr (.inr (.inr (fun _ => none)))))), ((h 4), .inl ((cs 4), 100, .inr (.inr (.inr (.inr (fun _ => none)))))), ((h 5), .inl ((cs 2), 4, .inr (.inr (.inr (.inr (fun _ => none)))))), ((h 6), .inl ((cs 4), 3, .inr (.inr (.inr (.inr (fun _ => none)))))), ((h 7), .inl ((cs 0), 4, .inr (.inr (.inr (.inr fn))))), ((h 8), .inr (0, [.ref (h 102), .ref (h 103), .int 0])), ((h 9), .inl ((cs 8), 8, .inr (.inr (.inr (.inr fp))))), ((h 10), .inr (8, [.ref (h 11), .int 0, .ref (h 12), .ref (h 13), .int 0, .ref (h 14), .int 0, .ref (h 15), .int 0, .ref (h 16), .int 0])), ((h 11), .inl ((cs 7), 4, .inr (.inr (.inr (.inr (fun _ => none)))))), ((h 12), .inl ((cs 9), 10, .inr (.inr (.inr (.inr (fun _ => none)))))), ((h 13), .inl ((cs 4), 100, .inr (.inr (.inr (.inr (fun _ => none)))))), ((h 14), .inl ((cs 2), 4, .inr (.inr (.inr (.inr (fun _ => none)))))), ((h 15), .inl ((cs 4), 3, .inr (.inr (.inr (.inr (fun _ => none)))))), ((h 16), .inl ((cs 0), 4, .inr (.inr (.inr (.inr f0))))), (o, .inl (cL, 1, .inr (.inl (fun _ => 0))))] [((cs 7), .object RX7), ((cs 9), .object RX9), ((cs 4), .object RX4), ((cs 2), .object RX2), ((cs 0), .object RX0), ((cs 8), .object RX8), (cL, .long)] sz)) (va_Qi (fun (r u : Int32) => zS_sign p0 p1 p2 r u) (fun u t => ∃ g2 : Nat → Int64, g2 0 = u.toInt64 ∧ zE D [(o, .inl (cL, 1, .inr (.inl g2)))] [] (va_A [((h 0), .inr (11, [.ref (h 1), .ref (h 9), .int 0, .int 0, .ref (h 20), .ref (h 37), .int 0, .ref (h 38), .ref (h 42), .ref (h 43), .ref (h 44), .ref (h 45), .ref (h 46), .ref (h 47), .ref (h 48)])), ((h 1), .inr (8, [.ref (h 2), .int 0, .ref (h 3), .ref (h 4), .int 0, .ref (h 5), .int 0, .ref (h 6), .int 0, .ref (h 7), .int 0])), ((h 2), .inl ((cs 7), 4, .inr (.inr (.inr (.inr (fun _ => none)))))), ((h 3), .inl ((cs 9), 10, .inr (.inr (.inr (.inr (fun _ => none)))))), ((h 4), .inl ((cs 4), 100, .inr (.inr (.inr (.inr (fun _ => none)))))), ((h 5), .inl ((cs 2), 4, .inr (.inr (.inr (.inr (fun _ => none)))))), ((h 6), .inl ((cs 4), 3, .inr (.inr (.inr (.inr (fun _ => none)))))), ((h 7), .inl ((cs 0), 4, .inr (.inr (.inr (.inr fn))))), ((h 8), .inr (0, [.ref (h 102), .ref (h 103), .int 0])), ((h 9), .inl ((cs 8), 8, .inr (.inr (.inr (.inr fp))))), ((h 10), .inr (8, [.ref (h 11), .int 0, .ref (h 12), .ref (h 13), .int 0, .ref (h 14), .int 0, .ref (h 15), .int 0, .ref (h 16), .int 0])), ((h 11), .inl ((cs 7), 4, .inr (.inr (.inr (.inr (fun _ => none)))))), ((h 12), .inl ((cs 9), 10, .inr (.inr (.inr (.inr (fun _ => none)))))), ((h 13), .inl ((cs 4), 100, .inr (.inr (.inr (.inr (fun _ => none)))))), ((h 14), .inl ((cs 2), 4, .inr (.inr (.inr (.inr (fun _ => none)))))), ((h 15), .inl ((cs 4), 3, .inr (.inr (.inr (.inr (fun _ => none)))))), ((h 16), .inl ((cs 0), 4, .inr (.inr (.inr (.inr f0))))), (o, .inl (cL, 1, .inr (.inl (fun _ => 0))))] sz) t) (va_A [((h 0), .inr (11, [.ref (h 1), .ref (h 9), .int 0, .int 0, .ref (h 20), .ref (h 37), .int 0, .ref (h 38), .ref (h 42), .ref (h 43), .ref (h 44), .ref (h 45), .ref (h 46), .ref (h 47), .ref (h 48)])), ((h 1), .inr (8, [.ref (h 2), .int 0, .ref (h 3), .ref (h 4), .int 0, .ref (h 5), .int 0, .ref (h 6), .int 0, .ref (h 7), .int 0])), ((h 2), .inl ((cs 7), 4, .inr (.inr (.inr (.inr (fun _ => none)))))), ((h 3), .inl ((cs 9), 10, .inr (.inr (.inr (.inr (fun _ => none)))))), ((h 4), .inl ((cs 4), 100, .inr (.inr (.inr (.inr (fun _ => none)))))), ((h 5), .inl ((cs 2), 4, .inr (.inr (.inr (.inr (fun _ => none)))))), ((h 6), .inl ((cs 4), 3, .inr (.inr (.inr (.inr (fun _ => none)))))), ((h 7), .inl ((cs 0), 4, .inr (.inr (.inr (.inr fn))))), ((h 8), .inr (0, [.ref (h 102), .ref (h 103), .int 0])), ((h 9), .inl ((cs 8), 8, .inr (.inr (.inr (.inr fp))))), ((h 10), .inr (8, [.ref (h 11), .int 0, .ref (h 12), .ref (h 13), .int 0, .ref (h 14), .int 0, .ref (h 15), .int 0, .ref (h 16), .int 0])), ((h 11), .inl ((cs 7), 4, .inr (.inr (.inr (.inr (fun _ => none)))))), ((h 12), .inl ((cs 9), 10, .inr (.inr (.inr (.inr (fun _ => none)))))), ((h 13), .inl ((cs 4), 100, .inr (.inr (.inr (.inr (fun _ => none)))))), ((h 14), .inl ((cs 2), 4, .inr (.inr (.inr (.inr (fun _ => none)))))), ((h 15), .inl ((cs 4), 3, .inr (.inr (.inr (.inr (fun _ => none)))))), ((h 16), .inl ((cs 0), 4, .inr (.inr (.inr (.inr f0))))), (o, .inl (cL, 1, .inr (.inl (fun _ => 0))))] sz)) 4 21 (va_A [((h 0), .inr (11, [.ref (h 1), .ref (h 9), .int 0, .int 0, .ref (h 20), .ref (h 37), .int 0, .ref (h 38), .ref (h 42), .ref (h 43), .ref (h 44), .ref (h 45), .ref (h 46), .ref (h 47), .ref (h 48)])), ((h 1), .inr (8, [.ref (h 2), .int 0, .ref (h 3), .ref (h 4), .int 0, .ref (h 5), .int 0, .ref (h 6), .int 0, .ref (h 7), .int 0])), ((h 2), .inl ((cs 7), 4, .inr (.inr (.inr (.inr (fun _ => none)))))), ((h 3), .inl ((cs 9), 10, .inr (.inr (.inr (.inr (fun _ => none)))))), ((h 4), .inl ((cs 4), 100, .inr (.inr (.inr (.inr (fun _ => none)))))), ((h 5), .inl ((cs 2), 4, .inr (.inr (.inr (.inr (fun _ => none)))))), ((h 6), .inl ((cs 4), 3, .inr (.inr (.inr (.inr (fun _ => none)))))), ((h 7), .inl ((cs 0), 4, .inr (.inr (.inr (.inr fn))))), ((h 8), .inr (0, [.ref (h 102), .ref (h 103), .int 0])), ((h 9), .inl ((cs 8), 8, .inr (.inr (.inr (.inr fp))))), ((h 10), .inr (8, [.ref (h 11), .int 0, .ref (h 12), .ref (h 13), .int 0, .ref (h 14), .int 0, .ref (h 15), .int 0, .ref (h 16), .int 0])), ((h 11), .inl ((cs 7), 4, .inr (.inr (.inr (.inr (fun _ => none)))))), ((h 12), .inl ((cs 9), 10, .inr (.inr (.inr (.inr (fun _ => none)))))), ((h 13), .inl ((cs 4), 100, .inr (.inr (.inr (.inr (fun _ => none)))))), ((h 14), .inl ((cs 2), 4, .inr (.inr (.inr (.inr (fun _ => none)))))), ((h 15), .inl ((cs 4), 3, .inr (.inr (.inr (.inr (fun _ => none)))))), ((h 16), .inl ((cs 0), 4, .inr (.inr (.inr (.inr f0))))), (o, .inl (cL, 1, .inr (.inl (fun _ => 0))))] sz) := by
  refine zOfWH (cc := cL_sign) (maxL := 6) (ret := (some .int)) (by decide) rfl ?_
  intro p e s m args below meth c s₁ B hml hv
  obtain ⟨rfl, hNc, hEx, hsz, hP, hK, hD0⟩ := hv
  have hx := B.exec
  have hb := B.bytes
  have hr := B.returns
  have hts := atoms_spec (ws := (.codeWith yL_sign cL_sign 6 (some .int) [(0, 12, 15, 13), (0, 12, 19, 15)] :: zT)) B.pre
  have ht : ∀ w ∈ zT, w.before _ s = true := fun w h => hts w (List.mem_cons_of_mem _ h)
  have hown : s.vm.findClass RL = some m.cls := findClass_of_methodNamed B.named
  have hlocks := B.notSynchronized
  have hTab := vx_table (x := yL_sign) B (hts _ List.mem_cons_self)
  subst hsz
  have hD := hD0.self (sz := s.heap.size)
  generalize hAe : va_A [((h 0), .inr (11, [.ref (h 1), .ref (h 9), .int 0, .int 0, .ref (h 20), .ref (h 37), .int 0, .ref (h 38), .ref (h 42), .ref (h 43), .ref (h 44), .ref (h 45), .ref (h 46), .ref (h 47), .ref (h 48)])), ((h 1), .inr (8, [.ref (h 2), .int 0, .ref (h 3), .ref (h 4), .int 0, .ref (h 5), .int 0, .ref (h 6), .int 0, .ref (h 7), .int 0])), ((h 2), .inl ((cs 7), 4, .inr (.inr (.inr (.inr (fun _ => none)))))), ((h 3), .inl ((cs 9), 10, .inr (.inr (.inr (.inr (fun _ => none)))))), ((h 4), .inl ((cs 4), 100, .inr (.inr (.inr (.inr (fun _ => none)))))), ((h 5), .inl ((cs 2), 4, .inr (.inr (.inr (.inr (fun _ => none)))))), ((h 6), .inl ((cs 4), 3, .inr (.inr (.inr (.inr (fun _ => none)))))), ((h 7), .inl ((cs 0), 4, .inr (.inr (.inr (.inr fn))))), ((h 8), .inr (0, [.ref (h 102), .ref (h 103), .int 0])), ((h 9), .inl ((cs 8), 8, .inr (.inr (.inr (.inr fp))))), ((h 10), .inr (8, [.ref (h 11), .int 0, .ref (h 12), .ref (h 13), .int 0, .ref (h 14), .int 0, .ref (h 15), .int 0, .ref (h 16), .int 0])), ((h 11), .inl ((cs 7), 4, .inr (.inr (.inr (.inr (fun _ => none)))))), ((h 12), .inl ((cs 9), 10, .inr (.inr (.inr (.inr (fun _ => none)))))), ((h 13), .inl ((cs 4), 100, .inr (.inr (.inr (.inr (fun _ => none)))))), ((h 14), .inl ((cs 2), 4, .inr (.inr (.inr (.inr (fun _ => none)))))), ((h 15), .inl ((cs 4), 3, .inr (.inr (.inr (.inr (fun _ => none)))))), ((h 16), .inl ((cs 0), 4, .inr (.inr (.inr (.inr f0))))), (o, .inl (cL, 1, .inr (.inl (fun _ => 0))))] s.heap.size = A at hD hEx ⊢
  have hA : ∀ q : Nat, s.heap.size ≤ q → A q := fun q h => by rw [← hAe]; exact Or.inr h
  have hS : va_S A s.heap s.heap [] := va_S.rf
  have hP : va_P D vwCl [((h 0), .inr (11, [.ref (h 1), .ref (h 9), .int 0, .int 0, .ref (h 20), .ref (h 37), .int 0, .ref (h 38), .ref (h 42), .ref (h 43), .ref (h 44), .ref (h 45), .ref (h 46), .ref (h 47), .ref (h 48)])), ((h 1), .inr (8, [.ref (h 2), .int 0, .ref (h 3), .ref (h 4), .int 0, .ref (h 5), .int 0, .ref (h 6), .int 0, .ref (h 7), .int 0])), ((h 2), .inl ((cs 7), 4, .inr (.inr (.inr (.inr (fun _ => none)))))), ((h 3), .inl ((cs 9), 10, .inr (.inr (.inr (.inr (fun _ => none)))))), ((h 4), .inl ((cs 4), 100, .inr (.inr (.inr (.inr (fun _ => none)))))), ((h 5), .inl ((cs 2), 4, .inr (.inr (.inr (.inr (fun _ => none)))))), ((h 6), .inl ((cs 4), 3, .inr (.inr (.inr (.inr (fun _ => none)))))), ((h 7), .inl ((cs 0), 4, .inr (.inr (.inr (.inr fn))))), ((h 8), .inr (0, [.ref (h 102), .ref (h 103), .int 0])), ((h 9), .inl ((cs 8), 8, .inr (.inr (.inr (.inr fp))))), ((h 10), .inr (8, [.ref (h 11), .int 0, .ref (h 12), .ref (h 13), .int 0, .ref (h 14), .int 0, .ref (h 15), .int 0, .ref (h 16), .int 0])), ((h 11), .inl ((cs 7), 4, .inr (.inr (.inr (.inr (fun _ => none)))))), ((h 12), .inl ((cs 9), 10, .inr (.inr (.inr (.inr (fun _ => none)))))), ((h 13), .inl ((cs 4), 100, .inr (.inr (.inr (.inr (fun _ => none)))))), ((h 14), .inl ((cs 2), 4, .inr (.inr (.inr (.inr (fun _ => none)))))), ((h 15), .inl ((cs 4), 3, .inr (.inr (.inr (.inr (fun _ => none)))))), ((h 16), .inl ((cs 0), 4, .inr (.inr (.inr (.inr f0))))), (o, .inl (cL, 1, .inr (.inl (fun _ => 0))))] s.heap := hP
  have hl := lv_entry ([.ref (h 0), .int p0, .int p1, .int p2, .ref o]) (n := 6) (Nat.le_of_ble_eq_true rfl)
  rw [lg_entry_eq]
  generalize (lg_sl ([.ref (h 0), .int p0, .int p1, .int p2, .ref o]) ++ List.replicate (6 - (lg_sl ([.ref (h 0), .int p0, .int p1, .int p2, .ref o])).length) Slot.unset).toArray = ls at hl ⊢
  have hl : lv_has ls 6 [(0, .ref (h 0)), (1, .int p0), (2, .int p1), (3, .int p2), (4, .ref o)] := hl
  skip
  refine lv_aload hx hb dL_sign_0 (lv_at hl 4 rfl) ?_
  refine lv_iconst (v := 0) hx hb dL_sign_2 (by decide) ?_
  refine lv_aload_n hx hb dL_sign_3 rfl (lv_at hl 0 rfl) ?_
  refine lv_iload_n hx hb dL_sign_4 rfl (lv_at hl 1 rfl) ?_
  refine lv_iload_n hx hb dL_sign_5 rfl (lv_at hl 2 rfl) ?_
  refine lv_iload_n hx hb dL_sign_6 rfl (lv_at hl 3 rfl) ?_
  have hPc := hP.sub (ws' := [((h 0), .inr (11, [.ref (h 1), .ref (h 9), .int 0, .int 0, .ref (h 20), .ref (h 37), .int 0, .ref (h 38), .ref (h 42), .ref (h 43), .ref (h 44), .ref (h 45), .ref (h 46), .ref (h 47), .ref (h 48)])), ((h 1), .inr (8, [.ref (h 2), .int 0, .ref (h 3), .ref (h 4), .int 0, .ref (h 5), .int 0, .ref (h 6), .int 0, .ref (h 7), .int 0])), ((h 2), .inl ((cs 7), 4, .inr (.inr (.inr (.inr (fun _ => none)))))), ((h 3), .inl ((cs 9), 10, .inr (.inr (.inr (.inr (fun _ => none)))))), ((h 4), .inl ((cs 4), 100, .inr (.inr (.inr (.inr (fun _ => none)))))), ((h 5), .inl ((cs 2), 4, .inr (.inr (.inr (.inr (fun _ => none)))))), ((h 6), .inl ((cs 4), 3, .inr (.inr (.inr (.inr (fun _ => none)))))), ((h 7), .inl ((cs 0), 4, .inr (.inr (.inr (.inr fn))))), ((h 8), .inr (0, [.ref (h 102), .ref (h 103), .int 0])), ((h 9), .inl ((cs 8), 8, .inr (.inr (.inr (.inr fp))))), ((h 10), .inr (8, [.ref (h 11), .int 0, .ref (h 12), .ref (h 13), .int 0, .ref (h 14), .int 0, .ref (h 15), .int 0, .ref (h 16), .int 0])), ((h 11), .inl ((cs 7), 4, .inr (.inr (.inr (.inr (fun _ => none)))))), ((h 12), .inl ((cs 9), 10, .inr (.inr (.inr (.inr (fun _ => none)))))), ((h 13), .inl ((cs 4), 100, .inr (.inr (.inr (.inr (fun _ => none)))))), ((h 14), .inl ((cs 2), 4, .inr (.inr (.inr (.inr (fun _ => none)))))), ((h 15), .inl ((cs 4), 3, .inr (.inr (.inr (.inr (fun _ => none)))))), ((h 16), .inl ((cs 0), 4, .inr (.inr (.inr (.inr f0)))))]) [0, 1, 2, 3, 4, 5, 6, 7, 8, 9, 10, 11, 12, 13, 14, 15, 16] rfl
  have hDc := hD.sub (ws' := [((h 0), .inr (11, [.ref (h 1), .ref (h 9), .int 0, .int 0, .ref (h 20), .ref (h 37), .int 0, .ref (h 38), .ref (h 42), .ref (h 43), .ref (h 44), .ref (h 45), .ref (h 46), .ref (h 47), .ref (h 48)])), ((h 1), .inr (8, [.ref (h 2), .int 0, .ref (h 3), .ref (h 4), .int 0, .ref (h 5), .int 0, .ref (h 6), .int 0, .ref (h 7), .int 0])), ((h 2), .inl ((cs 7), 4, .inr (.inr (.inr (.inr (fun _ => none)))))), ((h 3), .inl ((cs 9), 10, .inr (.inr (.inr (.inr (fun _ => none)))))), ((h 4), .inl ((cs 4), 100, .inr (.inr (.inr (.inr (fun _ => none)))))), ((h 5), .inl ((cs 2), 4, .inr (.inr (.inr (.inr (fun _ => none)))))), ((h 6), .inl ((cs 4), 3, .inr (.inr (.inr (.inr (fun _ => none)))))), ((h 7), .inl ((cs 0), 4, .inr (.inr (.inr (.inr fn))))), ((h 8), .inr (0, [.ref (h 102), .ref (h 103), .int 0])), ((h 9), .inl ((cs 8), 8, .inr (.inr (.inr (.inr fp))))), ((h 10), .inr (8, [.ref (h 11), .int 0, .ref (h 12), .ref (h 13), .int 0, .ref (h 14), .int 0, .ref (h 15), .int 0, .ref (h 16), .int 0])), ((h 11), .inl ((cs 7), 4, .inr (.inr (.inr (.inr (fun _ => none)))))), ((h 12), .inl ((cs 9), 10, .inr (.inr (.inr (.inr (fun _ => none)))))), ((h 13), .inl ((cs 4), 100, .inr (.inr (.inr (.inr (fun _ => none)))))), ((h 14), .inl ((cs 2), 4, .inr (.inr (.inr (.inr (fun _ => none)))))), ((h 15), .inl ((cs 4), 3, .inr (.inr (.inr (.inr (fun _ => none)))))), ((h 16), .inl ((cs 0), 4, .inr (.inr (.inr (.inr f0)))))]) [0, 1, 2, 3, 4, 5, 6, 7, 8, 9, 10, 11, 12, 13, 14, 15, 16] (by decide) rfl
  have hKc := hK.sub (tys' := [((cs 7), .object RX7), ((cs 9), .object RX9), ((cs 4), .object RX4), ((cs 2), .object RX2), ((cs 0), .object RX0), ((cs 8), .object RX8)]) [0, 1, 2, 3, 4, 5] rfl
  have hFc := va_free (wc := [((h 0), .inr (11, [.ref (h 1), .ref (h 9), .int 0, .int 0, .ref (h 20), .ref (h 37), .int 0, .ref (h 38), .ref (h 42), .ref (h 43), .ref (h 44), .ref (h 45), .ref (h 46), .ref (h 47), .ref (h 48)])), ((h 1), .inr (8, [.ref (h 2), .int 0, .ref (h 3), .ref (h 4), .int 0, .ref (h 5), .int 0, .ref (h 6), .int 0, .ref (h 7), .int 0])), ((h 2), .inl ((cs 7), 4, .inr (.inr (.inr (.inr (fun _ => none)))))), ((h 3), .inl ((cs 9), 10, .inr (.inr (.inr (.inr (fun _ => none)))))), ((h 4), .inl ((cs 4), 100, .inr (.inr (.inr (.inr (fun _ => none)))))), ((h 5), .inl ((cs 2), 4, .inr (.inr (.inr (.inr (fun _ => none)))))), ((h 6), .inl ((cs 4), 3, .inr (.inr (.inr (.inr (fun _ => none)))))), ((h 7), .inl ((cs 0), 4, .inr (.inr (.inr (.inr fn))))), ((h 8), .inr (0, [.ref (h 102), .ref (h 103), .int 0])), ((h 9), .inl ((cs 8), 8, .inr (.inr (.inr (.inr fp))))), ((h 10), .inr (8, [.ref (h 11), .int 0, .ref (h 12), .ref (h 13), .int 0, .ref (h 14), .int 0, .ref (h 15), .int 0, .ref (h 16), .int 0])), ((h 11), .inl ((cs 7), 4, .inr (.inr (.inr (.inr (fun _ => none)))))), ((h 12), .inl ((cs 9), 10, .inr (.inr (.inr (.inr (fun _ => none)))))), ((h 13), .inl ((cs 4), 100, .inr (.inr (.inr (.inr (fun _ => none)))))), ((h 14), .inl ((cs 2), 4, .inr (.inr (.inr (.inr (fun _ => none)))))), ((h 15), .inl ((cs 4), 3, .inr (.inr (.inr (.inr (fun _ => none)))))), ((h 16), .inl ((cs 0), 4, .inr (.inr (.inr (.inr f0)))))]) hD hS hA [0, 1, 2, 3, 4, 5, 6, 7, 8, 9, 10, 11, 12, 13, 14, 15, 16] rfl
  refine vx_calli (vx_runV (As := [.int p0, .int p1, .int p2]) (rest := [.int 0, .ref o]) ⟨hx, hb, hml, hown, ht⟩ (k_X11_sign l hl0 _ D h cs p0 p1 p2 fn hn fp f0 hp) (cwV 3 ht (zG_V zw_588 zw_589 zw_590 zw_404 zw_591) rfl rfl rfl (by decide +kernel) ⟨Nat.le_of_ble_eq_true rfl, Nat.le_of_ble_eq_true rfl⟩) (zW_V (va_recv hK hP (ci := 11) (q0 := 0) rfl rfl) hEx hS hFc hPc hKc hDc) rfl rfl hl.1 rfl (lv_room (Nat.le_of_ble_eq_true rfl)) dL_sign_7 ⟨Nat.le_of_ble_eq_true rfl, Nat.le_of_ble_eq_true rfl⟩) hS (fun q _ h => hFc q h) hFc (fun q _ h => hFc q h) (fun E ce q9 uu t H1 locs1 ht0 hvm hpx hB hz1 hk1 hS hcell hv hcl => ?_) (fun r_1 u_1 t H1 locs ht0 hvm hw_1 hB hz1 hk1 hS => ?_)
  · skip
    obtain ⟨rfl, hb9⟩ := hB
    obtain ⟨hP, hD⟩ := va_join (wr := [(o, .inl (cL, 1, .inr (.inl (fun _ => 0))))]) (w1 := []) hP hD [0, 1, 2, 3, 4, 5, 6, 7, 8, 9, 10, 11, 12, 13, 14, 15, 16] [17] rfl rfl (by decide) (by decide) hk1 hFc zP_nil zD_nil
    refine vx_catch (name := "java/lang/IllegalArgumentException") hown [] ⟨0, 12, 15, 13⟩ [⟨0, 12, 19, 15⟩] hTab ((fun _ h => nomatch h)) (by decide) (by decide) (ht _ zw_592) (va_Nw.use rfl (hEx.1.2.2.2.1 "java/lang/IllegalArgumentException" (by decide))) hcell hv hcl ?_
    generalize H1 = H at hP hS ⊢
    have hP : va_P D vwCl [(o, .inl (cL, 1, .inr (.inl (fun _ => 0))))] H := hP
    have hD : va_D A [(o, .inl (cL, 1, .inr (.inl (fun _ => 0))))] := hD
    refine W.widen (k := 4) (n := 21) (Nat.le_of_ble_eq_true rfl) (Nat.le_of_ble_eq_true rfl) ?_
    refine lv_astore (lv' := [(5, .ref q9), (0, .ref (h 0)), (1, .int p0), (2, .int p1), (3, .int p2), (4, .ref o)]) hx hb dL_sign_15 hl (by decide) rfl (fun ls hl => ?_)
    refine lv_iconst (v := 1) hx hb dL_sign_17 (by decide) ?_
    have hP9 := hP.sub (ws' := [(o, .inl (cL, 1, .inr (.inl (fun _ => 0))))]) [0] rfl
    have hD9 := hD.sub (ws' := [(o, .inl (cL, 1, .inr (.inl (fun _ => 0))))]) [0] (by decide) rfl
    have hK9 := hK.sub (tys' := []) [] rfl
    refine W.widen (k := 4) (n := 21) (Nat.le_of_ble_eq_true rfl) (Nat.le_of_ble_eq_true rfl) ?_
    exact W.iret (v := 1) hx hb hr (fun t ht0 hW => ⟨⟨1, 0, rfl, hb9, (fun _ => 0), rfl, zE_of hP9 hK9 hD9 ht0 hW⟩, hS.F ht0⟩) hS.2.2 dL_sign_18
  obtain ⟨hP1, hK1, hD1⟩ := hB
  rw [ht0] at hP1
  have hK1 := va_K.moved hvm.symm hK1
  obtain ⟨hP, hD⟩ := va_join (wr := [(o, .inl (cL, 1, .inr (.inl (fun _ => 0))))]) (w1 := []) hP hD [0, 1, 2, 3, 4, 5, 6, 7, 8, 9, 10, 11, 12, 13, 14, 15, 16] [17] rfl rfl (by decide) (by decide) hk1 hFc hP1 hD1
  generalize H1 = H at hP hS ⊢
  have hP : va_P D vwCl [(o, .inl (cL, 1, .inr (.inl (fun _ => 0))))] H := hP
  have hD : va_D A [(o, .inl (cL, 1, .inr (.inl (fun _ => 0))))] := hD
  refine W.widen (k := 4) (n := 21) (Nat.le_of_ble_eq_true rfl) (Nat.le_of_ble_eq_true rfl) ?_
  refine lv_i2l (v := (r_1).toInt64) hx hb dL_sign_10 rfl ?_
  refine va_last hx hb hK hP hD hS 0 6 rfl rfl (vp_in_iff.mpr (by decide)) dL_sign_11 (fun H locs hP hD hS => ?_)
  have hP : va_P D vwCl [(o, .inl (cL, 1, .inr (.inl (vp_updL (fun _ => 0) 0 ((r_1).toInt64)))))] H := hP
  have hD : va_D A [(o, .inl (cL, 1, .inr (.inl (vp_updL (fun _ => 0) 0 ((r_1).toInt64)))))] := hD
  refine lv_goto (tgt := 23) hx hb dL_sign_12 (by decide) ?_
  refine lv_iconst (v := 0) hx hb dL_sign_23 (by decide) ?_
  have hP9 := hP.sub (ws' := [(o, .inl (cL, 1, .inr (.inl (vp_updL (fun _ => 0) 0 ((r_1).toInt64)))))]) [0] rfl
  have hD9 := hD.sub (ws' := [(o, .inl (cL, 1, .inr (.inl (vp_updL (fun _ => 0) 0 ((r_1).toInt64)))))]) [0] (by decide) rfl
  have hK9 := hK.sub (tys' := []) [] rfl
  refine W.widen (k := 4) (n := 21) (Nat.le_of_ble_eq_true rfl) (Nat.le_of_ble_eq_true rfl) ?_
  exact W.iret (v := 0) hx hb hr (fun t ht0 hW => ⟨⟨0, r_1, rfl, hw_1, (vp_updL (fun _ => 0) 0 ((r_1).toInt64)), (by simp [vp_updL]), zE_of hP9 hK9 hD9 ht0 hW⟩, hS.F ht0⟩) hS.2.2 dL_sign_24
set_option maxHeartbeats 4000000 in
set_option maxRecDepth 100000 in
theorem k_L_variable (l : Launch) (hl0 : l.stackTraces = false) (sz : Nat) (D : va_G) (h cs : Nat → Nat) (p0 p1 : Int32) (fn : Nat → Option Nat) (hn : ∀ k : Nat, k < 4 → fn k = some (h 8)) (fp f0 : Nat → Option Nat) (hp : fp 0 = some (h 10)) (o : Nat) (cL : ClassId) : Met l yL_variable (.codeWith yL_variable cL_variable 5 (some .int) [(0, 10, 13, 21), (0, 10, 17, 13)] :: zT) ({ frames := 8, cells := 6, slots := 21, locals := 133 }) (va_Pc [.ref (h 0), .int p0, .int p1, .ref o] (zY D [((h 0), .inr (11, [.ref (h 1), .ref (h 9), .int 0, .int 0, .ref (h 20), .ref (h 37), .int 0, .ref (h 38), .ref (h 42), .ref (h 43), .ref (h 44), .ref (h 45), .ref (h 46), .ref (h 47), .ref (h 48)])), ((h 1), .inr (8, [.ref (h 2), .int 0, .ref (h 3), .ref (h 4), .int 0, .ref (h 5), .int 0, .ref (h 6), .int 0, .ref (h 7), .int 0])), ((h 2), .inl ((cs 7), 4, .inr (.inr (.inr (.inr (fun _ => none)))))), ((h 3), .inl ((cs 9), 10, .inr (.inr (.inr (.inr (fun _ => none)))))), ((h 4), .inl ((cs 4), 100, .inr (.inr (.inr (.inr (fun _ => none)))))), ((h 5), .inl ((cs 2), 4, .inr (.inr (.inr (.inr (fun _ => none)))))), ((h 6), .inl ((cs 4), 3, .inr (.inr (.inr (.inr (fun _ => none)))))), ((h 7), .inl ((cs 0), 4, .inr (.inr (.inr (.inr fn))))), ((h 8), .inr (0, [.ref (h 102), .ref (h 103), .int 0])), ((h 9), .inl ((cs 8), 8, .inr (.inr (.inr (.inr fp))))), ((h 10), .inr (8, [.ref (h 11), .int 0, .ref (h 12), .ref (h 13), .int 0, .ref (h 14), .int 0, .ref (h 15), .int 0, .ref (h 16), .int 0])), ((h 11), .inl ((cs 7), 4, .inr (.inr (.inr (.inr (fun _ => none)))))), ((h 12), .inl ((cs 9), 10, .inr (.inr (.inr (.inr (fun _ => none)))))), ((h 13), .inl ((cs 4), 100, .inr (.inr (.inr (.inr (fun _ => none)))))), ((h 14), .inl ((cs 2), 4, .inr (.inr (.inr (.inr (fun _ => none)))))), ((h 15), .inl ((cs 4), 3, .inr (.inr (.inr (.inr (fun _ => none)))))), ((h 16), .inl ((cs 0), 4, .inr (.inr (.inr (.inr f0))))), ((h 43), .inl ((cs 13), 40, .inl zI0)), (o, .inl (cL, 1, .inr (.inl (fun _ => 0))))] [((cs 7), .object RX7), ((cs 9), .object RX9), ((cs 4), .object RX4), ((cs 2), .object RX2), ((cs 0), .object RX0), ((cs 8), .object RX8), ((cs 13), .int), (cL, .long)] sz)) (va_Qi (fun (r u : Int32) => zS_variable p0 p1 r u) (fun u t => ∃ g2 : Nat → Int64, g2 0 = u.toInt64 ∧ zE D [(o, .inl (cL, 1, .inr (.inl g2)))] [] (va_A [((h 0), .inr (11, [.ref (h 1), .ref (h 9), .int 0, .int 0, .ref (h 20), .ref (h 37), .int 0, .ref (h 38), .ref (h 42), .ref (h 43), .ref (h 44), .ref (h 45), .ref (h 46), .ref (h 47), .ref (h 48)])), ((h 1), .inr (8, [.ref (h 2), .int 0, .ref (h 3), .ref (h 4), .int 0, .ref (h 5), .int 0, .ref (h 6), .int 0, .ref (h 7), .int 0])), ((h 2), .inl ((cs 7), 4, .inr (.inr (.inr (.inr (fun _ => none)))))), ((h 3), .inl ((cs 9), 10, .inr (.inr (.inr (.inr (fun _ => none)))))), ((h 4), .inl ((cs 4), 100, .inr (.inr (.inr (.inr (fun _ => none)))))), ((h 5), .inl ((cs 2), 4, .inr (.inr (.inr (.inr (fun _ => none)))))), ((h 6), .inl ((cs 4), 3, .inr (.inr (.inr (.inr (fun _ => none)))))), ((h 7), .inl ((cs 0), 4, .inr (.inr (.inr (.inr fn))))), ((h 8), .inr (0, [.ref (h 102), .ref (h 103), .int 0])), ((h 9), .inl ((cs 8), 8, .inr (.inr (.inr (.inr fp))))), ((h 10), .inr (8, [.ref (h 11), .int 0, .ref (h 12), .ref (h 13), .int 0, .ref (h 14), .int 0, .ref (h 15), .int 0, .ref (h 16), .int 0])), ((h 11), .inl ((cs 7), 4, .inr (.inr (.inr (.inr (fun _ => none)))))), ((h 12), .inl ((cs 9), 10, .inr (.inr (.inr (.inr (fun _ => none)))))), ((h 13), .inl ((cs 4), 100, .inr (.inr (.inr (.inr (fun _ => none)))))), ((h 14), .inl ((cs 2), 4, .inr (.inr (.inr (.inr (fun _ => none)))))), ((h 15), .inl ((cs 4), 3, .inr (.inr (.inr (.inr (fun _ => none)))))), ((h 16), .inl ((cs 0), 4, .inr (.inr (.inr (.inr f0))))), ((h 43), .inl ((cs 13), 40, .inl zI0)), (o, .inl (cL, 1, .inr (.inl (fun _ => 0))))] sz) t) (va_A [((h 0), .inr (11, [.ref (h 1), .ref (h 9), .int 0, .int 0, .ref (h 20), .ref (h 37), .int 0, .ref (h 38), .ref (h 42), .ref (h 43), .ref (h 44), .ref (h 45), .ref (h 46), .ref (h 47), .ref (h 48)])), ((h 1), .inr (8, [.ref (h 2), .int 0, .ref (h 3), .ref (h 4), .int 0, .ref (h 5), .int 0, .ref (h 6), .int 0, .ref (h 7), .int 0])), ((h 2), .inl ((cs 7), 4, .inr (.inr (.inr (.inr (fun _ => none)))))), ((h 3), .inl ((cs 9), 10, .inr (.inr (.inr (.inr (fun _ => none)))))), ((h 4), .inl ((cs 4), 100, .inr (.inr (.inr (.inr (fun _ => none)))))), ((h 5), .inl ((cs 2), 4, .inr (.inr (.inr (.inr (fun _ => none)))))), ((h 6), .inl ((cs 4), 3, .inr (.inr (.inr (.inr (fun _ => none)))))), ((h 7), .inl ((cs 0), 4, .inr (.inr (.inr (.inr fn))))), ((h 8), .inr (0, [.ref (h 102), .ref (h 103), .int 0])), ((h 9), .inl ((cs 8), 8, .inr (.inr (.inr (.inr fp))))), ((h 10), .inr (8, [.ref (h 11), .int 0, .ref (h 12), .ref (h 13), .int 0, .ref (h 14), .int 0, .ref (h 15), .int 0, .ref (h 16), .int 0])), ((h 11), .inl ((cs 7), 4, .inr (.inr (.inr (.inr (fun _ => none)))))), ((h 12), .inl ((cs 9), 10, .inr (.inr (.inr (.inr (fun _ => none)))))), ((h 13), .inl ((cs 4), 100, .inr (.inr (.inr (.inr (fun _ => none)))))), ((h 14), .inl ((cs 2), 4, .inr (.inr (.inr (.inr (fun _ => none)))))), ((h 15), .inl ((cs 4), 3, .inr (.inr (.inr (.inr (fun _ => none)))))), ((h 16), .inl ((cs 0), 4, .inr (.inr (.inr (.inr f0))))), ((h 43), .inl ((cs 13), 40, .inl zI0)), (o, .inl (cL, 1, .inr (.inl (fun _ => 0))))] sz)) 6 21 (va_A [((h 0), .inr (11, [.ref (h 1), .ref (h 9), .int 0, .int 0, .ref (h 20), .ref (h 37), .int 0, .ref (h 38), .ref (h 42), .ref (h 43), .ref (h 44), .ref (h 45), .ref (h 46), .ref (h 47), .ref (h 48)])), ((h 1), .inr (8, [.ref (h 2), .int 0, .ref (h 3), .ref (h 4), .int 0, .ref (h 5), .int 0, .ref (h 6), .int 0, .ref (h 7), .int 0])), ((h 2), .inl ((cs 7), 4, .inr (.inr (.inr (.inr (fun _ => none)))))), ((h 3), .inl ((cs 9), 10, .inr (.inr (.inr (.inr (fun _ => none)))))), ((h 4), .inl ((cs 4), 100, .inr (.inr (.inr (.inr (fun _ => none)))))), ((h 5), .inl ((cs 2), 4, .inr (.inr (.inr (.inr (fun _ => none)))))), ((h 6), .inl ((cs 4), 3, .inr (.inr (.inr (.inr (fun _ => none)))))), ((h 7), .inl ((cs 0), 4, .inr (.inr (.inr (.inr fn))))), ((h 8), .inr (0, [.ref (h 102), .ref (h 103), .int 0])), ((h 9), .inl ((cs 8), 8, .inr (.inr (.inr (.inr fp))))), ((h 10), .inr (8, [.ref (h 11), .int 0, .ref (h 12), .ref (h 13), .int 0, .ref (h 14), .int 0, .ref (h 15), .int 0, .ref (h 16), .int 0])), ((h 11), .inl ((cs 7), 4, .inr (.inr (.inr (.inr (fun _ => none)))))), ((h 12), .inl ((cs 9), 10, .inr (.inr (.inr (.inr (fun _ => none)))))), ((h 13), .inl ((cs 4), 100, .inr (.inr (.inr (.inr (fun _ => none)))))), ((h 14), .inl ((cs 2), 4, .inr (.inr (.inr (.inr (fun _ => none)))))), ((h 15), .inl ((cs 4), 3, .inr (.inr (.inr (.inr (fun _ => none)))))), ((h 16), .inl ((cs 0), 4, .inr (.inr (.inr (.inr f0))))), ((h 43), .inl ((cs 13), 40, .inl zI0)), (o, .inl (cL, 1, .inr (.inl (fun _ => 0))))] sz) := by
  refine zOfWH (cc := cL_variable) (maxL := 5) (ret := (some .int)) (by decide) rfl ?_
  intro p e s m args below meth c s₁ B hml hv
  obtain ⟨rfl, hNc, hEx, hsz, hP, hK, hD0⟩ := hv
  have hx := B.exec
  have hb := B.bytes
  have hr := B.returns
  have hts := atoms_spec (ws := (.codeWith yL_variable cL_variable 5 (some .int) [(0, 10, 13, 21), (0, 10, 17, 13)] :: zT)) B.pre
  have ht : ∀ w ∈ zT, w.before _ s = true := fun w h => hts w (List.mem_cons_of_mem _ h)
  have hown : s.vm.findClass RL = some m.cls := findClass_of_methodNamed B.named
  have hlocks := B.notSynchronized
  have hTab := vx_table (x := yL_variable) B (hts _ List.mem_cons_self)
  subst hsz
  have hD := hD0.self (sz := s.heap.size)
  generalize hAe : va_A [((h 0), .inr (11, [.ref (h 1), .ref (h 9), .int 0, .int 0, .ref (h 20), .ref (h 37), .int 0, .ref (h 38), .ref (h 42), .ref (h 43), .ref (h 44), .ref (h 45), .ref (h 46), .ref (h 47), .ref (h 48)])), ((h 1), .inr (8, [.ref (h 2), .int 0, .ref (h 3), .ref (h 4), .int 0, .ref (h 5), .int 0, .ref (h 6), .int 0, .ref (h 7), .int 0])), ((h 2), .inl ((cs 7), 4, .inr (.inr (.inr (.inr (fun _ => none)))))), ((h 3), .inl ((cs 9), 10, .inr (.inr (.inr (.inr (fun _ => none)))))), ((h 4), .inl ((cs 4), 100, .inr (.inr (.inr (.inr (fun _ => none)))))), ((h 5), .inl ((cs 2), 4, .inr (.inr (.inr (.inr (fun _ => none)))))), ((h 6), .inl ((cs 4), 3, .inr (.inr (.inr (.inr (fun _ => none)))))), ((h 7), .inl ((cs 0), 4, .inr (.inr (.inr (.inr fn))))), ((h 8), .inr (0, [.ref (h 102), .ref (h 103), .int 0])), ((h 9), .inl ((cs 8), 8, .inr (.inr (.inr (.inr fp))))), ((h 10), .inr (8, [.ref (h 11), .int 0, .ref (h 12), .ref (h 13), .int 0, .ref (h 14), .int 0, .ref (h 15), .int 0, .ref (h 16), .int 0])), ((h 11), .inl ((cs 7), 4, .inr (.inr (.inr (.inr (fun _ => none)))))), ((h 12), .inl ((cs 9), 10, .inr (.inr (.inr (.inr (fun _ => none)))))), ((h 13), .inl ((cs 4), 100, .inr (.inr (.inr (.inr (fun _ => none)))))), ((h 14), .inl ((cs 2), 4, .inr (.inr (.inr (.inr (fun _ => none)))))), ((h 15), .inl ((cs 4), 3, .inr (.inr (.inr (.inr (fun _ => none)))))), ((h 16), .inl ((cs 0), 4, .inr (.inr (.inr (.inr f0))))), ((h 43), .inl ((cs 13), 40, .inl zI0)), (o, .inl (cL, 1, .inr (.inl (fun _ => 0))))] s.heap.size = A at hD hEx ⊢
  have hA : ∀ q : Nat, s.heap.size ≤ q → A q := fun q h => by rw [← hAe]; exact Or.inr h
  have hS : va_S A s.heap s.heap [] := va_S.rf
  have hP : va_P D vwCl [((h 0), .inr (11, [.ref (h 1), .ref (h 9), .int 0, .int 0, .ref (h 20), .ref (h 37), .int 0, .ref (h 38), .ref (h 42), .ref (h 43), .ref (h 44), .ref (h 45), .ref (h 46), .ref (h 47), .ref (h 48)])), ((h 1), .inr (8, [.ref (h 2), .int 0, .ref (h 3), .ref (h 4), .int 0, .ref (h 5), .int 0, .ref (h 6), .int 0, .ref (h 7), .int 0])), ((h 2), .inl ((cs 7), 4, .inr (.inr (.inr (.inr (fun _ => none)))))), ((h 3), .inl ((cs 9), 10, .inr (.inr (.inr (.inr (fun _ => none)))))), ((h 4), .inl ((cs 4), 100, .inr (.inr (.inr (.inr (fun _ => none)))))), ((h 5), .inl ((cs 2), 4, .inr (.inr (.inr (.inr (fun _ => none)))))), ((h 6), .inl ((cs 4), 3, .inr (.inr (.inr (.inr (fun _ => none)))))), ((h 7), .inl ((cs 0), 4, .inr (.inr (.inr (.inr fn))))), ((h 8), .inr (0, [.ref (h 102), .ref (h 103), .int 0])), ((h 9), .inl ((cs 8), 8, .inr (.inr (.inr (.inr fp))))), ((h 10), .inr (8, [.ref (h 11), .int 0, .ref (h 12), .ref (h 13), .int 0, .ref (h 14), .int 0, .ref (h 15), .int 0, .ref (h 16), .int 0])), ((h 11), .inl ((cs 7), 4, .inr (.inr (.inr (.inr (fun _ => none)))))), ((h 12), .inl ((cs 9), 10, .inr (.inr (.inr (.inr (fun _ => none)))))), ((h 13), .inl ((cs 4), 100, .inr (.inr (.inr (.inr (fun _ => none)))))), ((h 14), .inl ((cs 2), 4, .inr (.inr (.inr (.inr (fun _ => none)))))), ((h 15), .inl ((cs 4), 3, .inr (.inr (.inr (.inr (fun _ => none)))))), ((h 16), .inl ((cs 0), 4, .inr (.inr (.inr (.inr f0))))), ((h 43), .inl ((cs 13), 40, .inl zI0)), (o, .inl (cL, 1, .inr (.inl (fun _ => 0))))] s.heap := hP
  have hl := lv_entry ([.ref (h 0), .int p0, .int p1, .ref o]) (n := 5) (Nat.le_of_ble_eq_true rfl)
  rw [lg_entry_eq]
  generalize (lg_sl ([.ref (h 0), .int p0, .int p1, .ref o]) ++ List.replicate (5 - (lg_sl ([.ref (h 0), .int p0, .int p1, .ref o])).length) Slot.unset).toArray = ls at hl ⊢
  have hl : lv_has ls 5 [(0, .ref (h 0)), (1, .int p0), (2, .int p1), (3, .ref o)] := hl
  skip
  refine lv_aload_n hx hb dL_variable_0 rfl (lv_at hl 3 rfl) ?_
  refine lv_iconst (v := 0) hx hb dL_variable_1 (by decide) ?_
  refine lv_aload_n hx hb dL_variable_2 rfl (lv_at hl 0 rfl) ?_
  refine lv_iload_n hx hb dL_variable_3 rfl (lv_at hl 1 rfl) ?_
  refine lv_iload_n hx hb dL_variable_4 rfl (lv_at hl 2 rfl) ?_
  have hPc := hP.sub (ws' := [((h 0), .inr (11, [.ref (h 1), .ref (h 9), .int 0, .int 0, .ref (h 20), .ref (h 37), .int 0, .ref (h 38), .ref (h 42), .ref (h 43), .ref (h 44), .ref (h 45), .ref (h 46), .ref (h 47), .ref (h 48)])), ((h 1), .inr (8, [.ref (h 2), .int 0, .ref (h 3), .ref (h 4), .int 0, .ref (h 5), .int 0, .ref (h 6), .int 0, .ref (h 7), .int 0])), ((h 2), .inl ((cs 7), 4, .inr (.inr (.inr (.inr (fun _ => none)))))), ((h 3), .inl ((cs 9), 10, .inr (.inr (.inr (.inr (fun _ => none)))))), ((h 4), .inl ((cs 4), 100, .inr (.inr (.inr (.inr (fun _ => none)))))), ((h 5), .inl ((cs 2), 4, .inr (.inr (.inr (.inr (fun _ => none)))))), ((h 6), .inl ((cs 4), 3, .inr (.inr (.inr (.inr (fun _ => none)))))), ((h 7), .inl ((cs 0), 4, .inr (.inr (.inr (.inr fn))))), ((h 8), .inr (0, [.ref (h 102), .ref (h 103), .int 0])), ((h 9), .inl ((cs 8), 8, .inr (.inr (.inr (.inr fp))))), ((h 10), .inr (8, [.ref (h 11), .int 0, .ref (h 12), .ref (h 13), .int 0, .ref (h 14), .int 0, .ref (h 15), .int 0, .ref (h 16), .int 0])), ((h 11), .inl ((cs 7), 4, .inr (.inr (.inr (.inr (fun _ => none)))))), ((h 12), .inl ((cs 9), 10, .inr (.inr (.inr (.inr (fun _ => none)))))), ((h 13), .inl ((cs 4), 100, .inr (.inr (.inr (.inr (fun _ => none)))))), ((h 14), .inl ((cs 2), 4, .inr (.inr (.inr (.inr (fun _ => none)))))), ((h 15), .inl ((cs 4), 3, .inr (.inr (.inr (.inr (fun _ => none)))))), ((h 16), .inl ((cs 0), 4, .inr (.inr (.inr (.inr f0))))), ((h 43), .inl ((cs 13), 40, .inl zI0))]) [0, 1, 2, 3, 4, 5, 6, 7, 8, 9, 10, 11, 12, 13, 14, 15, 16, 17] rfl
  have hDc := hD.sub (ws' := [((h 0), .inr (11, [.ref (h 1), .ref (h 9), .int 0, .int 0, .ref (h 20), .ref (h 37), .int 0, .ref (h 38), .ref (h 42), .ref (h 43), .ref (h 44), .ref (h 45), .ref (h 46), .ref (h 47), .ref (h 48)])), ((h 1), .inr (8, [.ref (h 2), .int 0, .ref (h 3), .ref (h 4), .int 0, .ref (h 5), .int 0, .ref (h 6), .int 0, .ref (h 7), .int 0])), ((h 2), .inl ((cs 7), 4, .inr (.inr (.inr (.inr (fun _ => none)))))), ((h 3), .inl ((cs 9), 10, .inr (.inr (.inr (.inr (fun _ => none)))))), ((h 4), .inl ((cs 4), 100, .inr (.inr (.inr (.inr (fun _ => none)))))), ((h 5), .inl ((cs 2), 4, .inr (.inr (.inr (.inr (fun _ => none)))))), ((h 6), .inl ((cs 4), 3, .inr (.inr (.inr (.inr (fun _ => none)))))), ((h 7), .inl ((cs 0), 4, .inr (.inr (.inr (.inr fn))))), ((h 8), .inr (0, [.ref (h 102), .ref (h 103), .int 0])), ((h 9), .inl ((cs 8), 8, .inr (.inr (.inr (.inr fp))))), ((h 10), .inr (8, [.ref (h 11), .int 0, .ref (h 12), .ref (h 13), .int 0, .ref (h 14), .int 0, .ref (h 15), .int 0, .ref (h 16), .int 0])), ((h 11), .inl ((cs 7), 4, .inr (.inr (.inr (.inr (fun _ => none)))))), ((h 12), .inl ((cs 9), 10, .inr (.inr (.inr (.inr (fun _ => none)))))), ((h 13), .inl ((cs 4), 100, .inr (.inr (.inr (.inr (fun _ => none)))))), ((h 14), .inl ((cs 2), 4, .inr (.inr (.inr (.inr (fun _ => none)))))), ((h 15), .inl ((cs 4), 3, .inr (.inr (.inr (.inr (fun _ => none)))))), ((h 16), .inl ((cs 0), 4, .inr (.inr (.inr (.inr f0))))), ((h 43), .inl ((cs 13), 40, .inl zI0))]) [0, 1, 2, 3, 4, 5, 6, 7, 8, 9, 10, 11, 12, 13, 14, 15, 16, 17] (by decide) rfl
  have hKc := hK.sub (tys' := [((cs 7), .object RX7), ((cs 9), .object RX9), ((cs 4), .object RX4), ((cs 2), .object RX2), ((cs 0), .object RX0), ((cs 8), .object RX8), ((cs 13), .int)]) [0, 1, 2, 3, 4, 5, 6] rfl
  have hFc := va_free (wc := [((h 0), .inr (11, [.ref (h 1), .ref (h 9), .int 0, .int 0, .ref (h 20), .ref (h 37), .int 0, .ref (h 38), .ref (h 42), .ref (h 43), .ref (h 44), .ref (h 45), .ref (h 46), .ref (h 47), .ref (h 48)])), ((h 1), .inr (8, [.ref (h 2), .int 0, .ref (h 3), .ref (h 4), .int 0, .ref (h 5), .int 0, .ref (h 6), .int 0, .ref (h 7), .int 0])), ((h 2), .inl ((cs 7), 4, .inr (.inr (.inr (.inr (fun _ => none)))))), ((h 3), .inl ((cs 9), 10, .inr (.inr (.inr (.inr (fun _ => none)))))), ((h 4), .inl ((cs 4), 100, .inr (.inr (.inr (.inr (fun _ => none)))))), ((h 5), .inl ((cs 2), 4, .inr (.inr (.inr (.inr (fun _ => none)))))), ((h 6), .inl ((cs 4), 3, .inr (.inr (.inr (.inr (fun _ => none)))))), ((h 7), .inl ((cs 0), 4, .inr (.inr (.inr (.inr fn))))), ((h 8), .inr (0, [.ref (h 102), .ref (h 103), .int 0])), ((h 9), .inl ((cs 8), 8, .inr (.inr (.inr (.inr fp))))), ((h 10), .inr (8, [.ref (h 11), .int 0, .ref (h 12), .ref (h 13), .int 0, .ref (h 14), .int 0, .ref (h 15), .int 0, .ref (h 16), .int 0])), ((h 11), .inl ((cs 7), 4, .inr (.inr (.inr (.inr (fun _ => none)))))), ((h 12), .inl ((cs 9), 10, .inr (.inr (.inr (.inr (fun _ => none)))))), ((h 13), .inl ((cs 4), 100, .inr (.inr (.inr (.inr (fun _ => none)))))), ((h 14), .inl ((cs 2), 4, .inr (.inr (.inr (.inr (fun _ => none)))))), ((h 15), .inl ((cs 4), 3, .inr (.inr (.inr (.inr (fun _ => none)))))), ((h 16), .inl ((cs 0), 4, .inr (.inr (.inr (.inr f0))))), ((h 43), .inl ((cs 13), 40, .inl zI0))]) hD hS hA [0, 1, 2, 3, 4, 5, 6, 7, 8, 9, 10, 11, 12, 13, 14, 15, 16, 17] rfl
  refine vx_calli (vx_runV (As := [.int p0, .int p1]) (rest := [.int 0, .ref o]) ⟨hx, hb, hml, hown, ht⟩ (k_X11_variable l hl0 _ D h cs p0 p1 fn hn fp f0 hp) (cwV 2 ht (zG_V zw_593 zw_594 zw_595 zw_404 zw_596) rfl rfl rfl (by decide +kernel) ⟨Nat.le_of_ble_eq_true rfl, Nat.le_of_ble_eq_true rfl⟩) (zW_V (va_recv hK hP (ci := 11) (q0 := 0) rfl rfl) hEx hS hFc hPc hKc hDc) rfl rfl hl.1 rfl (lv_room (Nat.le_of_ble_eq_true rfl)) dL_variable_5 ⟨Nat.le_of_ble_eq_true rfl, Nat.le_of_ble_eq_true rfl⟩) hS (fun q _ h => hFc q h) hFc (fun q _ h => hFc q h) (fun E ce q9 uu t H1 locs1 ht0 hvm hpx hB hz1 hk1 hS hcell hv hcl => ?_) (fun r_1 u_1 t H1 locs ht0 hvm hw_1 hB hz1 hk1 hS => ?_)
  · skip
    rcases hB with ⟨rfl, hb9⟩ | ⟨rfl, hb9⟩
    · skip
      obtain ⟨hP, hD⟩ := va_join (wr := [(o, .inl (cL, 1, .inr (.inl (fun _ => 0))))]) (w1 := []) hP hD [0, 1, 2, 3, 4, 5, 6, 7, 8, 9, 10, 11, 12, 13, 14, 15, 16, 17] [18] rfl rfl (by decide) (by decide) hk1 hFc zP_nil zD_nil
      refine vx_catch (name := "java/lang/IndexOutOfBoundsException") hown [] ⟨0, 10, 13, 21⟩ [⟨0, 10, 17, 13⟩] hTab ((fun _ h => nomatch h)) (by decide) (by decide) (ht _ zw_597) (va_Nw.use rfl (hEx.1.2.2.2.1 "java/lang/IndexOutOfBoundsException" (by decide))) hcell hv hcl ?_
      generalize H1 = H at hP hS ⊢
      have hP : va_P D vwCl [(o, .inl (cL, 1, .inr (.inl (fun _ => 0))))] H := hP
      have hD : va_D A [(o, .inl (cL, 1, .inr (.inl (fun _ => 0))))] := hD
      refine W.widen (k := 6) (n := 21) (Nat.le_of_ble_eq_true rfl) (Nat.le_of_ble_eq_true rfl) ?_
      refine lv_astore (lv' := [(4, .ref q9), (0, .ref (h 0)), (1, .int p0), (2, .int p1), (3, .ref o)]) hx hb dL_variable_13 hl (by decide) rfl (fun ls hl => ?_)
      refine lv_iconst (v := 1) hx hb dL_variable_15 (by decide) ?_
      have hP9 := hP.sub (ws' := [(o, .inl (cL, 1, .inr (.inl (fun _ => 0))))]) [0] rfl
      have hD9 := hD.sub (ws' := [(o, .inl (cL, 1, .inr (.inl (fun _ => 0))))]) [0] (by decide) rfl
      have hK9 := hK.sub (tys' := []) [] rfl
      refine W.widen (k := 6) (n := 21) (Nat.le_of_ble_eq_true rfl) (Nat.le_of_ble_eq_true rfl) ?_
      exact W.iret (v := 1) hx hb hr (fun t ht0 hW => ⟨⟨1, 0, rfl, hb9, (fun _ => 0), rfl, zE_of hP9 hK9 hD9 ht0 hW⟩, hS.F ht0⟩) hS.2.2 dL_variable_16
    · skip
      obtain ⟨hP, hD⟩ := va_join (wr := [(o, .inl (cL, 1, .inr (.inl (fun _ => 0))))]) (w1 := []) hP hD [0, 1, 2, 3, 4, 5, 6, 7, 8, 9, 10, 11, 12, 13, 14, 15, 16, 17] [18] rfl rfl (by decide) (by decide) hk1 hFc zP_nil zD_nil
      refine vx_catch (name := "java/lang/IllegalArgumentException") hown [⟨0, 10, 13, 21⟩] ⟨0, 10, 17, 13⟩ [] hTab (List.forall_mem_cons.mpr ⟨.inr ⟨by decide, "java/lang/IndexOutOfBoundsException", ht _ zw_597, hNc ("java/lang/IllegalArgumentException", "java/lang/IndexOutOfBoundsException") (by decide)⟩, (fun _ h => nomatch h)⟩) (by decide) (by decide) (ht _ zw_592) (va_Nw.use rfl (hEx.1.2.2.2.1 "java/lang/IllegalArgumentException" (by decide))) hcell hv hcl ?_
      generalize H1 = H at hP hS ⊢
      have hP : va_P D vwCl [(o, .inl (cL, 1, .inr (.inl (fun _ => 0))))] H := hP
      have hD : va_D A [(o, .inl (cL, 1, .inr (.inl (fun _ => 0))))] := hD
      refine W.widen (k := 6) (n := 21) (Nat.le_of_ble_eq_true rfl) (Nat.le_of_ble_eq_true rfl) ?_
      refine lv_astore (lv' := [(4, .ref q9), (0, .ref (h 0)), (1, .int p0), (2, .int p1), (3, .ref o)]) hx hb dL_variable_17 hl (by decide) rfl (fun ls hl => ?_)
      refine lv_iconst (v := 2) hx hb dL_variable_19 (by decide) ?_
      have hP9 := hP.sub (ws' := [(o, .inl (cL, 1, .inr (.inl (fun _ => 0))))]) [0] rfl
      have hD9 := hD.sub (ws' := [(o, .inl (cL, 1, .inr (.inl (fun _ => 0))))]) [0] (by decide) rfl
      have hK9 := hK.sub (tys' := []) [] rfl
      refine W.widen (k := 6) (n := 21) (Nat.le_of_ble_eq_true rfl) (Nat.le_of_ble_eq_true rfl) ?_
      exact W.iret (v := 2) hx hb hr (fun t ht0 hW => ⟨⟨2, 0, rfl, hb9, (fun _ => 0), rfl, zE_of hP9 hK9 hD9 ht0 hW⟩, hS.F ht0⟩) hS.2.2 dL_variable_20
  obtain ⟨hP1, hK1, hD1⟩ := hB
  rw [ht0] at hP1
  have hK1 := va_K.moved hvm.symm hK1
  obtain ⟨hP, hD⟩ := va_join (wr := [(o, .inl (cL, 1, .inr (.inl (fun _ => 0))))]) (w1 := []) hP hD [0, 1, 2, 3, 4, 5, 6, 7, 8, 9, 10, 11, 12, 13, 14, 15, 16, 17] [18] rfl rfl (by decide) (by decide) hk1 hFc hP1 hD1
  generalize H1 = H at hP hS ⊢
  have hP : va_P D vwCl [(o, .inl (cL, 1, .inr (.inl (fun _ => 0))))] H := hP
  have hD : va_D A [(o, .inl (cL, 1, .inr (.inl (fun _ => 0))))] := hD
  refine W.widen (k := 6) (n := 21) (Nat.le_of_ble_eq_true rfl) (Nat.le_of_ble_eq_true rfl) ?_
  refine lv_i2l (v := (r_1).toInt64) hx hb dL_variable_8 rfl ?_
  refine va_last hx hb hK hP hD hS 0 7 rfl rfl (vp_in_iff.mpr (by decide)) dL_variable_9 (fun H locs hP hD hS => ?_)
  have hP : va_P D vwCl [(o, .inl (cL, 1, .inr (.inl (vp_updL (fun _ => 0) 0 ((r_1).toInt64)))))] H := hP
  have hD : va_D A [(o, .inl (cL, 1, .inr (.inl (vp_updL (fun _ => 0) 0 ((r_1).toInt64)))))] := hD
  refine lv_goto (tgt := 21) hx hb dL_variable_10 (by decide) ?_
  refine lv_iconst (v := 0) hx hb dL_variable_21 (by decide) ?_
  have hP9 := hP.sub (ws' := [(o, .inl (cL, 1, .inr (.inl (vp_updL (fun _ => 0) 0 ((r_1).toInt64)))))]) [0] rfl
  have hD9 := hD.sub (ws' := [(o, .inl (cL, 1, .inr (.inl (vp_updL (fun _ => 0) 0 ((r_1).toInt64)))))]) [0] (by decide) rfl
  have hK9 := hK.sub (tys' := []) [] rfl
  refine W.widen (k := 6) (n := 21) (Nat.le_of_ble_eq_true rfl) (Nat.le_of_ble_eq_true rfl) ?_
  exact W.iret (v := 0) hx hb hr (fun t ht0 hW => ⟨⟨0, r_1, rfl, hw_1, (vp_updL (fun _ => 0) 0 ((r_1).toInt64)), (by simp [vp_updL]), zE_of hP9 hK9 hD9 ht0 hW⟩, hS.F ht0⟩) hS.2.2 dL_variable_22
set_option maxHeartbeats 4000000 in
set_option maxRecDepth 100000 in
theorem k_L_term (l : Launch) (hl0 : l.stackTraces = false) (sz : Nat) (D : va_G) (h cs : Nat → Nat) (p0 p1 p2 p3 : Int32) (o : Nat) (cL : ClassId) : Met l yL_term (.codeWith yL_term cL_term 7 (some .int) [(0, 14, 17, 21), (0, 14, 21, 15)] :: zT) ({ frames := 8, cells := 2, slots := 12, locals := 138 }) (va_Pc [.ref (h 0), .int p0, .int p1, .int p2, .int p3, .ref o] (zY D [((h 0), .inr (11, [.ref (h 1), .ref (h 9), .int 0, .int 0, .ref (h 20), .ref (h 37), .int 0, .ref (h 38), .ref (h 42), .ref (h 43), .ref (h 44), .ref (h 45), .ref (h 46), .ref (h 47), .ref (h 48)])), ((h 1), .inr (8, [.ref (h 2), .int 0, .ref (h 3), .ref (h 4), .int 0, .ref (h 5), .int 0, .ref (h 6), .int 0, .ref (h 7), .int 0])), (o, .inl (cL, 1, .inr (.inl (fun _ => 0))))] [(cL, .long)] sz)) (va_Qi (fun (r u : Int32) => zS_term p0 p1 p2 p3 r u) (fun u t => ∃ g2 : Nat → Int64, g2 0 = u.toInt64 ∧ zE D [(o, .inl (cL, 1, .inr (.inl g2)))] [] (va_A [((h 0), .inr (11, [.ref (h 1), .ref (h 9), .int 0, .int 0, .ref (h 20), .ref (h 37), .int 0, .ref (h 38), .ref (h 42), .ref (h 43), .ref (h 44), .ref (h 45), .ref (h 46), .ref (h 47), .ref (h 48)])), ((h 1), .inr (8, [.ref (h 2), .int 0, .ref (h 3), .ref (h 4), .int 0, .ref (h 5), .int 0, .ref (h 6), .int 0, .ref (h 7), .int 0])), (o, .inl (cL, 1, .inr (.inl (fun _ => 0))))] sz) t) (va_A [((h 0), .inr (11, [.ref (h 1), .ref (h 9), .int 0, .int 0, .ref (h 20), .ref (h 37), .int 0, .ref (h 38), .ref (h 42), .ref (h 43), .ref (h 44), .ref (h 45), .ref (h 46), .ref (h 47), .ref (h 48)])), ((h 1), .inr (8, [.ref (h 2), .int 0, .ref (h 3), .ref (h 4), .int 0, .ref (h 5), .int 0, .ref (h 6), .int 0, .ref (h 7), .int 0])), (o, .inl (cL, 1, .inr (.inl (fun _ => 0))))] sz)) 2 12 (va_A [((h 0), .inr (11, [.ref (h 1), .ref (h 9), .int 0, .int 0, .ref (h 20), .ref (h 37), .int 0, .ref (h 38), .ref (h 42), .ref (h 43), .ref (h 44), .ref (h 45), .ref (h 46), .ref (h 47), .ref (h 48)])), ((h 1), .inr (8, [.ref (h 2), .int 0, .ref (h 3), .ref (h 4), .int 0, .ref (h 5), .int 0, .ref (h 6), .int 0, .ref (h 7), .int 0])), (o, .inl (cL, 1, .inr (.inl (fun _ => 0))))] sz) := by
  refine zOfWH (cc := cL_term) (maxL := 7) (ret := (some .int)) (by decide) rfl ?_
  intro p e s m args below meth c s₁ B hml hv
  obtain ⟨rfl, hNc, hEx, hsz, hP, hK, hD0⟩ := hv
  have hx := B.exec
  have hb := B.bytes
  have hr := B.returns
  have hts := atoms_spec (ws := (.codeWith yL_term cL_term 7 (some .int) [(0, 14, 17, 21), (0, 14, 21, 15)] :: zT)) B.pre
  have ht : ∀ w ∈ zT, w.before _ s = true := fun w h => hts w (List.mem_cons_of_mem _ h)
  have hown : s.vm.findClass RL = some m.cls := findClass_of_methodNamed B.named
  have hlocks := B.notSynchronized
  have hTab := vx_table (x := yL_term) B (hts _ List.mem_cons_self)
  subst hsz
  have hD := hD0.self (sz := s.heap.size)
  generalize hAe : va_A [((h 0), .inr (11, [.ref (h 1), .ref (h 9), .int 0, .int 0, .ref (h 20), .ref (h 37), .int 0, .ref (h 38), .ref (h 42), .ref (h 43), .ref (h 44), .ref (h 45), .ref (h 46), .ref (h 47), .ref (h 48)])), ((h 1), .inr (8, [.ref (h 2), .int 0, .ref (h 3), .ref (h 4), .int 0, .ref (h 5), .int 0, .ref (h 6), .int 0, .ref (h 7), .int 0])), (o, .inl (cL, 1, .inr (.inl (fun _ => 0))))] s.heap.size = A at hD hEx ⊢
  have hA : ∀ q : Nat, s.heap.size ≤ q → A q := fun q h => by rw [← hAe]; exact Or.inr h
  have hS : va_S A s.heap s.heap [] := va_S.rf
  have hP : va_P D vwCl [((h 0), .inr (11, [.ref (h 1), .ref (h 9), .int 0, .int 0, .ref (h 20), .ref (h 37), .int 0, .ref (h 38), .ref (h 42), .ref (h 43), .ref (h 44), .ref (h 45), .ref (h 46), .ref (h 47), .ref (h 48)])), ((h 1), .inr (8, [.ref (h 2), .int 0, .ref (h 3), .ref (h 4), .int 0, .ref (h 5), .int 0, .ref (h 6), .int 0, .ref (h 7), .int 0])), (o, .inl (cL, 1, .inr (.inl (fun _ => 0))))] s.heap := hP
  have hl := lv_entry ([.ref (h 0), .int p0, .int p1, .int p2, .int p3, .ref o]) (n := 7) (Nat.le_of_ble_eq_true rfl)
  rw [lg_entry_eq]
  generalize (lg_sl ([.ref (h 0), .int p0, .int p1, .int p2, .int p3, .ref o]) ++ List.replicate (7 - (lg_sl ([.ref (h 0), .int p0, .int p1, .int p2, .int p3, .ref o])).length) Slot.unset).toArray = ls at hl ⊢
  have hl : lv_has ls 7 [(0, .ref (h 0)), (1, .int p0), (2, .int p1), (3, .int p2), (4, .int p3), (5, .ref o)] := hl
  skip
  refine lv_aload hx hb dL_term_0 (lv_at hl 5 rfl) ?_
  refine lv_iconst (v := 0) hx hb dL_term_2 (by decide) ?_
  refine lv_aload_n hx hb dL_term_3 rfl (lv_at hl 0 rfl) ?_
  refine lv_iload_n hx hb dL_term_4 rfl (lv_at hl 1 rfl) ?_
  refine lv_iload_n hx hb dL_term_5 rfl (lv_at hl 2 rfl) ?_
  refine lv_iload_n hx hb dL_term_6 rfl (lv_at hl 3 rfl) ?_
  refine lv_iload hx hb dL_term_7 (lv_at hl 4 rfl) ?_
  have hPc := hP.sub (ws' := [((h 0), .inr (11, [.ref (h 1), .ref (h 9), .int 0, .int 0, .ref (h 20), .ref (h 37), .int 0, .ref (h 38), .ref (h 42), .ref (h 43), .ref (h 44), .ref (h 45), .ref (h 46), .ref (h 47), .ref (h 48)])), ((h 1), .inr (8, [.ref (h 2), .int 0, .ref (h 3), .ref (h 4), .int 0, .ref (h 5), .int 0, .ref (h 6), .int 0, .ref (h 7), .int 0]))]) [0, 1] rfl
  have hDc := hD.sub (ws' := [((h 0), .inr (11, [.ref (h 1), .ref (h 9), .int 0, .int 0, .ref (h 20), .ref (h 37), .int 0, .ref (h 38), .ref (h 42), .ref (h 43), .ref (h 44), .ref (h 45), .ref (h 46), .ref (h 47), .ref (h 48)])), ((h 1), .inr (8, [.ref (h 2), .int 0, .ref (h 3), .ref (h 4), .int 0, .ref (h 5), .int 0, .ref (h 6), .int 0, .ref (h 7), .int 0]))]) [0, 1] (by decide) rfl
  have hKc := hK.sub (tys' := []) [] rfl
  have hFc := va_free (wc := [((h 0), .inr (11, [.ref (h 1), .ref (h 9), .int 0, .int 0, .ref (h 20), .ref (h 37), .int 0, .ref (h 38), .ref (h 42), .ref (h 43), .ref (h 44), .ref (h 45), .ref (h 46), .ref (h 47), .ref (h 48)])), ((h 1), .inr (8, [.ref (h 2), .int 0, .ref (h 3), .ref (h 4), .int 0, .ref (h 5), .int 0, .ref (h 6), .int 0, .ref (h 7), .int 0]))]) hD hS hA [0, 1] rfl
  refine vx_calli (vx_runV (As := [.int p0, .int p1, .int p2, .int p3]) (rest := [.int 0, .ref o]) ⟨hx, hb, hml, hown, ht⟩ (k_X11_term l hl0 _ D h cs p0 p1 p2 p3) (cwV 4 ht (zG_V zw_598 zw_599 zw_600 zw_404 zw_601) rfl rfl rfl (by decide +kernel) ⟨Nat.le_of_ble_eq_true rfl, Nat.le_of_ble_eq_true rfl⟩) (zW_V (va_recv hK hP (ci := 11) (q0 := 0) rfl rfl) hEx hS hFc hPc hKc hDc) rfl rfl hl.1 rfl (lv_room (Nat.le_of_ble_eq_true rfl)) dL_term_9 ⟨Nat.le_of_ble_eq_true rfl, Nat.le_of_ble_eq_true rfl⟩) hS (fun q _ h => hFc q h) hFc (fun q _ h => hFc q h) (fun E ce q9 uu t H1 locs1 ht0 hvm hpx hB hz1 hk1 hS hcell hv hcl => ?_) (fun r_1 u_1 t H1 locs ht0 hvm hw_1 hB hz1 hk1 hS => ?_)
  · skip
    obtain ⟨rfl, hb9⟩ := hB
    obtain ⟨hP, hD⟩ := va_join (wr := [(o, .inl (cL, 1, .inr (.inl (fun _ => 0))))]) (w1 := []) hP hD [0, 1] [2] rfl rfl (by decide) (by decide) hk1 hFc zP_nil zD_nil
    refine vx_catch (name := "java/lang/IndexOutOfBoundsException") hown [] ⟨0, 14, 17, 21⟩ [⟨0, 14, 21, 15⟩] hTab ((fun _ h => nomatch h)) (by decide) (by decide) (ht _ zw_597) (va_Nw.use rfl (hEx.1.2.2.2.1 "java/lang/IndexOutOfBoundsException" (by decide))) hcell hv hcl ?_
    generalize H1 = H at hP hS ⊢
    have hP : va_P D vwCl [(o, .inl (cL, 1, .inr (.inl (fun _ => 0))))] H := hP
    have hD : va_D A [(o, .inl (cL, 1, .inr (.inl (fun _ => 0))))] := hD
    refine W.widen (k := 2) (n := 12) (Nat.le_of_ble_eq_true rfl) (Nat.le_of_ble_eq_true rfl) ?_
    refine lv_astore (lv' := [(6, .ref q9), (0, .ref (h 0)), (1, .int p0), (2, .int p1), (3, .int p2), (4, .int p3), (5, .ref o)]) hx hb dL_term_17 hl (by decide) rfl (fun ls hl => ?_)
    refine lv_iconst (v := 1) hx hb dL_term_19 (by decide) ?_
    have hP9 := hP.sub (ws' := [(o, .inl (cL, 1, .inr (.inl (fun _ => 0))))]) [0] rfl
    have hD9 := hD.sub (ws' := [(o, .inl (cL, 1, .inr (.inl (fun _ => 0))))]) [0] (by decide) rfl
    have hK9 := hK.sub (tys' := []) [] rfl
    refine W.widen (k := 2) (n := 12) (Nat.le_of_ble_eq_true rfl) (Nat.le_of_ble_eq_true rfl) ?_
    exact W.iret (v := 1) hx hb hr (fun t ht0 hW => ⟨⟨1, 0, rfl, hb9, (fun _ => 0), rfl, zE_of hP9 hK9 hD9 ht0 hW⟩, hS.F ht0⟩) hS.2.2 dL_term_20
  obtain ⟨hP1, hK1, hD1⟩ := hB
  rw [ht0] at hP1
  have hK1 := va_K.moved hvm.symm hK1
  obtain ⟨hP, hD⟩ := va_join (wr := [(o, .inl (cL, 1, .inr (.inl (fun _ => 0))))]) (w1 := []) hP hD [0, 1] [2] rfl rfl (by decide) (by decide) hk1 hFc hP1 hD1
  generalize H1 = H at hP hS ⊢
  have hP : va_P D vwCl [(o, .inl (cL, 1, .inr (.inl (fun _ => 0))))] H := hP
  have hD : va_D A [(o, .inl (cL, 1, .inr (.inl (fun _ => 0))))] := hD
  refine W.widen (k := 2) (n := 12) (Nat.le_of_ble_eq_true rfl) (Nat.le_of_ble_eq_true rfl) ?_
  exfalso
  unfold zS_term at hw_1
  obtain ⟨h9, -⟩ := hw_1
  exact absurd h9 (by decide)
set_option maxHeartbeats 4000000 in
set_option maxRecDepth 100000 in
theorem k_L_read (l : Launch) (hl0 : l.stackTraces = false) (sz : Nat) (D : va_G) (h cs : Nat → Nat) (p0 : Int32) (o : Nat) (cL : ClassId) : Met l yL_read (.codeWith yL_read cL_read 4 (some .int) [(0, 9, 12, 21), (0, 9, 15, 13)] :: zT) ({ frames := 8, cells := 2, slots := 12, locals := 132 }) (va_Pc [.ref (h 0), .int p0, .ref o] (zY D [((h 0), .inr (11, [.ref (h 1), .ref (h 9), .int 0, .int 0, .ref (h 20), .ref (h 37), .int 0, .ref (h 38), .ref (h 42), .ref (h 43), .ref (h 44), .ref (h 45), .ref (h 46), .ref (h 47), .ref (h 48)])), ((h 1), .inr (8, [.ref (h 2), .int 0, .ref (h 3), .ref (h 4), .int 0, .ref (h 5), .int 0, .ref (h 6), .int 0, .ref (h 7), .int 0])), ((h 38), .inr (10, [.ref (h 39), .int 0, .ref (h 40), .int 0, .ref (h 80), .int 0, .int 0])), (o, .inl (cL, 1, .inr (.inl (fun _ => 0))))] [(cL, .long)] sz)) (va_Qi (fun (r u : Int32) => zS_read p0 r u) (fun u t => ∃ g2 : Nat → Int64, g2 0 = u.toInt64 ∧ zE D [(o, .inl (cL, 1, .inr (.inl g2)))] [] (va_A [((h 0), .inr (11, [.ref (h 1), .ref (h 9), .int 0, .int 0, .ref (h 20), .ref (h 37), .int 0, .ref (h 38), .ref (h 42), .ref (h 43), .ref (h 44), .ref (h 45), .ref (h 46), .ref (h 47), .ref (h 48)])), ((h 1), .inr (8, [.ref (h 2), .int 0, .ref (h 3), .ref (h 4), .int 0, .ref (h 5), .int 0, .ref (h 6), .int 0, .ref (h 7), .int 0])), ((h 38), .inr (10, [.ref (h 39), .int 0, .ref (h 40), .int 0, .ref (h 80), .int 0, .int 0])), (o, .inl (cL, 1, .inr (.inl (fun _ => 0))))] sz) t) (va_A [((h 0), .inr (11, [.ref (h 1), .ref (h 9), .int 0, .int 0, .ref (h 20), .ref (h 37), .int 0, .ref (h 38), .ref (h 42), .ref (h 43), .ref (h 44), .ref (h 45), .ref (h 46), .ref (h 47), .ref (h 48)])), ((h 1), .inr (8, [.ref (h 2), .int 0, .ref (h 3), .ref (h 4), .int 0, .ref (h 5), .int 0, .ref (h 6), .int 0, .ref (h 7), .int 0])), ((h 38), .inr (10, [.ref (h 39), .int 0, .ref (h 40), .int 0, .ref (h 80), .int 0, .int 0])), (o, .inl (cL, 1, .inr (.inl (fun _ => 0))))] sz)) 2 12 (va_A [((h 0), .inr (11, [.ref (h 1), .ref (h 9), .int 0, .int 0, .ref (h 20), .ref (h 37), .int 0, .ref (h 38), .ref (h 42), .ref (h 43), .ref (h 44), .ref (h 45), .ref (h 46), .ref (h 47), .ref (h 48)])), ((h 1), .inr (8, [.ref (h 2), .int 0, .ref (h 3), .ref (h 4), .int 0, .ref (h 5), .int 0, .ref (h 6), .int 0, .ref (h 7), .int 0])), ((h 38), .inr (10, [.ref (h 39), .int 0, .ref (h 40), .int 0, .ref (h 80), .int 0, .int 0])), (o, .inl (cL, 1, .inr (.inl (fun _ => 0))))] sz) := by
  refine zOfWH (cc := cL_read) (maxL := 4) (ret := (some .int)) (by decide) rfl ?_
  intro p e s m args below meth c s₁ B hml hv
  obtain ⟨rfl, hNc, hEx, hsz, hP, hK, hD0⟩ := hv
  have hx := B.exec
  have hb := B.bytes
  have hr := B.returns
  have hts := atoms_spec (ws := (.codeWith yL_read cL_read 4 (some .int) [(0, 9, 12, 21), (0, 9, 15, 13)] :: zT)) B.pre
  have ht : ∀ w ∈ zT, w.before _ s = true := fun w h => hts w (List.mem_cons_of_mem _ h)
  have hown : s.vm.findClass RL = some m.cls := findClass_of_methodNamed B.named
  have hlocks := B.notSynchronized
  have hTab := vx_table (x := yL_read) B (hts _ List.mem_cons_self)
  subst hsz
  have hD := hD0.self (sz := s.heap.size)
  generalize hAe : va_A [((h 0), .inr (11, [.ref (h 1), .ref (h 9), .int 0, .int 0, .ref (h 20), .ref (h 37), .int 0, .ref (h 38), .ref (h 42), .ref (h 43), .ref (h 44), .ref (h 45), .ref (h 46), .ref (h 47), .ref (h 48)])), ((h 1), .inr (8, [.ref (h 2), .int 0, .ref (h 3), .ref (h 4), .int 0, .ref (h 5), .int 0, .ref (h 6), .int 0, .ref (h 7), .int 0])), ((h 38), .inr (10, [.ref (h 39), .int 0, .ref (h 40), .int 0, .ref (h 80), .int 0, .int 0])), (o, .inl (cL, 1, .inr (.inl (fun _ => 0))))] s.heap.size = A at hD hEx ⊢
  have hA : ∀ q : Nat, s.heap.size ≤ q → A q := fun q h => by rw [← hAe]; exact Or.inr h
  have hS : va_S A s.heap s.heap [] := va_S.rf
  have hP : va_P D vwCl [((h 0), .inr (11, [.ref (h 1), .ref (h 9), .int 0, .int 0, .ref (h 20), .ref (h 37), .int 0, .ref (h 38), .ref (h 42), .ref (h 43), .ref (h 44), .ref (h 45), .ref (h 46), .ref (h 47), .ref (h 48)])), ((h 1), .inr (8, [.ref (h 2), .int 0, .ref (h 3), .ref (h 4), .int 0, .ref (h 5), .int 0, .ref (h 6), .int 0, .ref (h 7), .int 0])), ((h 38), .inr (10, [.ref (h 39), .int 0, .ref (h 40), .int 0, .ref (h 80), .int 0, .int 0])), (o, .inl (cL, 1, .inr (.inl (fun _ => 0))))] s.heap := hP
  have hl := lv_entry ([.ref (h 0), .int p0, .ref o]) (n := 4) (Nat.le_of_ble_eq_true rfl)
  rw [lg_entry_eq]
  generalize (lg_sl ([.ref (h 0), .int p0, .ref o]) ++ List.replicate (4 - (lg_sl ([.ref (h 0), .int p0, .ref o])).length) Slot.unset).toArray = ls at hl ⊢
  have hl : lv_has ls 4 [(0, .ref (h 0)), (1, .int p0), (2, .ref o)] := hl
  skip
  refine lv_aload_n hx hb dL_read_0 rfl (lv_at hl 2 rfl) ?_
  refine lv_iconst (v := 0) hx hb dL_read_1 (by decide) ?_
  refine lv_aload_n hx hb dL_read_2 rfl (lv_at hl 0 rfl) ?_
  refine lv_iload_n hx hb dL_read_3 rfl (lv_at hl 1 rfl) ?_
  have hPc := hP.sub (ws' := [((h 0), .inr (11, [.ref (h 1), .ref (h 9), .int 0, .int 0, .ref (h 20), .ref (h 37), .int 0, .ref (h 38), .ref (h 42), .ref (h 43), .ref (h 44), .ref (h 45), .ref (h 46), .ref (h 47), .ref (h 48)])), ((h 1), .inr (8, [.ref (h 2), .int 0, .ref (h 3), .ref (h 4), .int 0, .ref (h 5), .int 0, .ref (h 6), .int 0, .ref (h 7), .int 0])), ((h 38), .inr (10, [.ref (h 39), .int 0, .ref (h 40), .int 0, .ref (h 80), .int 0, .int 0]))]) [0, 1, 2] rfl
  have hDc := hD.sub (ws' := [((h 0), .inr (11, [.ref (h 1), .ref (h 9), .int 0, .int 0, .ref (h 20), .ref (h 37), .int 0, .ref (h 38), .ref (h 42), .ref (h 43), .ref (h 44), .ref (h 45), .ref (h 46), .ref (h 47), .ref (h 48)])), ((h 1), .inr (8, [.ref (h 2), .int 0, .ref (h 3), .ref (h 4), .int 0, .ref (h 5), .int 0, .ref (h 6), .int 0, .ref (h 7), .int 0])), ((h 38), .inr (10, [.ref (h 39), .int 0, .ref (h 40), .int 0, .ref (h 80), .int 0, .int 0]))]) [0, 1, 2] (by decide) rfl
  have hKc := hK.sub (tys' := []) [] rfl
  have hFc := va_free (wc := [((h 0), .inr (11, [.ref (h 1), .ref (h 9), .int 0, .int 0, .ref (h 20), .ref (h 37), .int 0, .ref (h 38), .ref (h 42), .ref (h 43), .ref (h 44), .ref (h 45), .ref (h 46), .ref (h 47), .ref (h 48)])), ((h 1), .inr (8, [.ref (h 2), .int 0, .ref (h 3), .ref (h 4), .int 0, .ref (h 5), .int 0, .ref (h 6), .int 0, .ref (h 7), .int 0])), ((h 38), .inr (10, [.ref (h 39), .int 0, .ref (h 40), .int 0, .ref (h 80), .int 0, .int 0]))]) hD hS hA [0, 1, 2] rfl
  refine vx_calli (vx_runV (As := [.int p0]) (rest := [.int 0, .ref o]) ⟨hx, hb, hml, hown, ht⟩ (k_X11_read l hl0 _ D h cs p0) (cwV 1 ht (zG_V zw_602 zw_603 zw_604 zw_404 zw_605) rfl rfl rfl (by decide +kernel) ⟨Nat.le_of_ble_eq_true rfl, Nat.le_of_ble_eq_true rfl⟩) (zW_V (va_recv hK hP (ci := 11) (q0 := 0) rfl rfl) hEx hS hFc hPc hKc hDc) rfl rfl hl.1 rfl (lv_room (Nat.le_of_ble_eq_true rfl)) dL_read_4 ⟨Nat.le_of_ble_eq_true rfl, Nat.le_of_ble_eq_true rfl⟩) hS (fun q _ h => hFc q h) hFc (fun q _ h => hFc q h) (fun E ce q9 uu t H1 locs1 ht0 hvm hpx hB hz1 hk1 hS hcell hv hcl => ?_) (fun r_1 u_1 t H1 locs ht0 hvm hw_1 hB hz1 hk1 hS => ?_)
  · skip
    rcases hB with ⟨rfl, hb9⟩ | ⟨rfl, hb9⟩
    · skip
      obtain ⟨hP, hD⟩ := va_join (wr := [(o, .inl (cL, 1, .inr (.inl (fun _ => 0))))]) (w1 := []) hP hD [0, 1, 2] [3] rfl rfl (by decide) (by decide) hk1 hFc zP_nil zD_nil
      refine vx_catch (name := "java/lang/IndexOutOfBoundsException") hown [] ⟨0, 9, 12, 21⟩ [⟨0, 9, 15, 13⟩] hTab ((fun _ h => nomatch h)) (by decide) (by decide) (ht _ zw_597) (va_Nw.use rfl (hEx.1.2.2.2.1 "java/lang/IndexOutOfBoundsException" (by decide))) hcell hv hcl ?_
      generalize H1 = H at hP hS ⊢
      have hP : va_P D vwCl [(o, .inl (cL, 1, .inr (.inl (fun _ => 0))))] H := hP
      have hD : va_D A [(o, .inl (cL, 1, .inr (.inl (fun _ => 0))))] := hD
      refine W.widen (k := 2) (n := 12) (Nat.le_of_ble_eq_true rfl) (Nat.le_of_ble_eq_true rfl) ?_
      refine lv_astore_n (lv' := [(3, .ref q9), (0, .ref (h 0)), (1, .int p0), (2, .ref o)]) hx hb dL_read_12 rfl hl (by decide) rfl (fun ls hl => ?_)
      refine lv_iconst (v := 1) hx hb dL_read_13 (by decide) ?_
      have hP9 := hP.sub (ws' := [(o, .inl (cL, 1, .inr (.inl (fun _ => 0))))]) [0] rfl
      have hD9 := hD.sub (ws' := [(o, .inl (cL, 1, .inr (.inl (fun _ => 0))))]) [0] (by decide) rfl
      have hK9 := hK.sub (tys' := []) [] rfl
      refine W.widen (k := 2) (n := 12) (Nat.le_of_ble_eq_true rfl) (Nat.le_of_ble_eq_true rfl) ?_
      exact W.iret (v := 1) hx hb hr (fun t ht0 hW => ⟨⟨1, 0, rfl, hb9, (fun _ => 0), rfl, zE_of hP9 hK9 hD9 ht0 hW⟩, hS.F ht0⟩) hS.2.2 dL_read_14
    · skip
      obtain ⟨hP, hD⟩ := va_join (wr := [(o, .inl (cL, 1, .inr (.inl (fun _ => 0))))]) (w1 := []) hP hD [0, 1, 2] [3] rfl rfl (by decide) (by decide) hk1 hFc zP_nil zD_nil
      refine vx_catch (name := "java/lang/IllegalArgumentException") hown [⟨0, 9, 12, 21⟩] ⟨0, 9, 15, 13⟩ [] hTab (List.forall_mem_cons.mpr ⟨.inr ⟨by decide, "java/lang/IndexOutOfBoundsException", ht _ zw_597, hNc ("java/lang/IllegalArgumentException", "java/lang/IndexOutOfBoundsException") (by decide)⟩, (fun _ h => nomatch h)⟩) (by decide) (by decide) (ht _ zw_592) (va_Nw.use rfl (hEx.1.2.2.2.1 "java/lang/IllegalArgumentException" (by decide))) hcell hv hcl ?_
      generalize H1 = H at hP hS ⊢
      have hP : va_P D vwCl [(o, .inl (cL, 1, .inr (.inl (fun _ => 0))))] H := hP
      have hD : va_D A [(o, .inl (cL, 1, .inr (.inl (fun _ => 0))))] := hD
      refine W.widen (k := 2) (n := 12) (Nat.le_of_ble_eq_true rfl) (Nat.le_of_ble_eq_true rfl) ?_
      refine lv_astore_n (lv' := [(3, .ref q9), (0, .ref (h 0)), (1, .int p0), (2, .ref o)]) hx hb dL_read_15 rfl hl (by decide) rfl (fun ls hl => ?_)
      refine lv_iconst (v := 2) hx hb dL_read_16 (by decide) ?_
      have hP9 := hP.sub (ws' := [(o, .inl (cL, 1, .inr (.inl (fun _ => 0))))]) [0] rfl
      have hD9 := hD.sub (ws' := [(o, .inl (cL, 1, .inr (.inl (fun _ => 0))))]) [0] (by decide) rfl
      have hK9 := hK.sub (tys' := []) [] rfl
      refine W.widen (k := 2) (n := 12) (Nat.le_of_ble_eq_true rfl) (Nat.le_of_ble_eq_true rfl) ?_
      exact W.iret (v := 2) hx hb hr (fun t ht0 hW => ⟨⟨2, 0, rfl, hb9, (fun _ => 0), rfl, zE_of hP9 hK9 hD9 ht0 hW⟩, hS.F ht0⟩) hS.2.2 dL_read_17
  obtain ⟨hP1, hK1, hD1⟩ := hB
  rw [ht0] at hP1
  have hK1 := va_K.moved hvm.symm hK1
  obtain ⟨hP, hD⟩ := va_join (wr := [(o, .inl (cL, 1, .inr (.inl (fun _ => 0))))]) (w1 := []) hP hD [0, 1, 2] [3] rfl rfl (by decide) (by decide) hk1 hFc hP1 hD1
  generalize H1 = H at hP hS ⊢
  have hP : va_P D vwCl [(o, .inl (cL, 1, .inr (.inl (fun _ => 0))))] H := hP
  have hD : va_D A [(o, .inl (cL, 1, .inr (.inl (fun _ => 0))))] := hD
  refine W.widen (k := 2) (n := 12) (Nat.le_of_ble_eq_true rfl) (Nat.le_of_ble_eq_true rfl) ?_
  exfalso
  unfold zS_read at hw_1
  rcases hw_1 with ⟨h9, -⟩ | ⟨h9, -⟩
  · exact absurd h9 (by decide)
  · exact absurd h9 (by decide)
set_option maxHeartbeats 4000000 in
set_option maxRecDepth 100000 in
theorem k_L_part (l : Launch) (hl0 : l.stackTraces = false) (sz : Nat) (D : va_G) (h cs : Nat → Nat) (p0 p1 p2 : Int32) (o : Nat) (cL : ClassId) : Met l yL_part (.codeWith yL_part cL_part 6 (some .int) [(0, 12, 15, 21), (0, 12, 19, 15)] :: zT) ({ frames := 8, cells := 3, slots := 18, locals := 137 }) (va_Pc [.ref (h 0), .int p0, .int p1, .int p2, .ref o] (zY D [((h 0), .inr (11, [.ref (h 1), .ref (h 9), .int 0, .int 0, .ref (h 20), .ref (h 37), .int 0, .ref (h 38), .ref (h 42), .ref (h 43), .ref (h 44), .ref (h 45), .ref (h 46), .ref (h 47), .ref (h 48)])), ((h 1), .inr (8, [.ref (h 2), .int 0, .ref (h 3), .ref (h 4), .int 0, .ref (h 5), .int 0, .ref (h 6), .int 0, .ref (h 7), .int 0])), ((h 3), .inl ((cs 9), 10, .inr (.inr (.inr (.inr (fun _ => none)))))), (o, .inl (cL, 1, .inr (.inl (fun _ => 0))))] [((cs 9), .object RX9), (cL, .long)] sz)) (va_Qi (fun (r u : Int32) => zS_part p0 p1 p2 r u) (fun u t => ∃ g2 : Nat → Int64, g2 0 = u.toInt64 ∧ zE D [(o, .inl (cL, 1, .inr (.inl g2)))] [] (va_A [((h 0), .inr (11, [.ref (h 1), .ref (h 9), .int 0, .int 0, .ref (h 20), .ref (h 37), .int 0, .ref (h 38), .ref (h 42), .ref (h 43), .ref (h 44), .ref (h 45), .ref (h 46), .ref (h 47), .ref (h 48)])), ((h 1), .inr (8, [.ref (h 2), .int 0, .ref (h 3), .ref (h 4), .int 0, .ref (h 5), .int 0, .ref (h 6), .int 0, .ref (h 7), .int 0])), ((h 3), .inl ((cs 9), 10, .inr (.inr (.inr (.inr (fun _ => none)))))), (o, .inl (cL, 1, .inr (.inl (fun _ => 0))))] sz) t) (va_A [((h 0), .inr (11, [.ref (h 1), .ref (h 9), .int 0, .int 0, .ref (h 20), .ref (h 37), .int 0, .ref (h 38), .ref (h 42), .ref (h 43), .ref (h 44), .ref (h 45), .ref (h 46), .ref (h 47), .ref (h 48)])), ((h 1), .inr (8, [.ref (h 2), .int 0, .ref (h 3), .ref (h 4), .int 0, .ref (h 5), .int 0, .ref (h 6), .int 0, .ref (h 7), .int 0])), ((h 3), .inl ((cs 9), 10, .inr (.inr (.inr (.inr (fun _ => none)))))), (o, .inl (cL, 1, .inr (.inl (fun _ => 0))))] sz)) 3 18 (va_A [((h 0), .inr (11, [.ref (h 1), .ref (h 9), .int 0, .int 0, .ref (h 20), .ref (h 37), .int 0, .ref (h 38), .ref (h 42), .ref (h 43), .ref (h 44), .ref (h 45), .ref (h 46), .ref (h 47), .ref (h 48)])), ((h 1), .inr (8, [.ref (h 2), .int 0, .ref (h 3), .ref (h 4), .int 0, .ref (h 5), .int 0, .ref (h 6), .int 0, .ref (h 7), .int 0])), ((h 3), .inl ((cs 9), 10, .inr (.inr (.inr (.inr (fun _ => none)))))), (o, .inl (cL, 1, .inr (.inl (fun _ => 0))))] sz) := by
  refine zOfWH (cc := cL_part) (maxL := 6) (ret := (some .int)) (by decide) rfl ?_
  intro p e s m args below meth c s₁ B hml hv
  obtain ⟨rfl, hNc, hEx, hsz, hP, hK, hD0⟩ := hv
  have hx := B.exec
  have hb := B.bytes
  have hr := B.returns
  have hts := atoms_spec (ws := (.codeWith yL_part cL_part 6 (some .int) [(0, 12, 15, 21), (0, 12, 19, 15)] :: zT)) B.pre
  have ht : ∀ w ∈ zT, w.before _ s = true := fun w h => hts w (List.mem_cons_of_mem _ h)
  have hown : s.vm.findClass RL = some m.cls := findClass_of_methodNamed B.named
  have hlocks := B.notSynchronized
  have hTab := vx_table (x := yL_part) B (hts _ List.mem_cons_self)
  subst hsz
  have hD := hD0.self (sz := s.heap.size)
  generalize hAe : va_A [((h 0), .inr (11, [.ref (h 1), .ref (h 9), .int 0, .int 0, .ref (h 20), .ref (h 37), .int 0, .ref (h 38), .ref (h 42), .ref (h 43), .ref (h 44), .ref (h 45), .ref (h 46), .ref (h 47), .ref (h 48)])), ((h 1), .inr (8, [.ref (h 2), .int 0, .ref (h 3), .ref (h 4), .int 0, .ref (h 5), .int 0, .ref (h 6), .int 0, .ref (h 7), .int 0])), ((h 3), .inl ((cs 9), 10, .inr (.inr (.inr (.inr (fun _ => none)))))), (o, .inl (cL, 1, .inr (.inl (fun _ => 0))))] s.heap.size = A at hD hEx ⊢
  have hA : ∀ q : Nat, s.heap.size ≤ q → A q := fun q h => by rw [← hAe]; exact Or.inr h
  have hS : va_S A s.heap s.heap [] := va_S.rf
  have hP : va_P D vwCl [((h 0), .inr (11, [.ref (h 1), .ref (h 9), .int 0, .int 0, .ref (h 20), .ref (h 37), .int 0, .ref (h 38), .ref (h 42), .ref (h 43), .ref (h 44), .ref (h 45), .ref (h 46), .ref (h 47), .ref (h 48)])), ((h 1), .inr (8, [.ref (h 2), .int 0, .ref (h 3), .ref (h 4), .int 0, .ref (h 5), .int 0, .ref (h 6), .int 0, .ref (h 7), .int 0])), ((h 3), .inl ((cs 9), 10, .inr (.inr (.inr (.inr (fun _ => none)))))), (o, .inl (cL, 1, .inr (.inl (fun _ => 0))))] s.heap := hP
  have hl := lv_entry ([.ref (h 0), .int p0, .int p1, .int p2, .ref o]) (n := 6) (Nat.le_of_ble_eq_true rfl)
  rw [lg_entry_eq]
  generalize (lg_sl ([.ref (h 0), .int p0, .int p1, .int p2, .ref o]) ++ List.replicate (6 - (lg_sl ([.ref (h 0), .int p0, .int p1, .int p2, .ref o])).length) Slot.unset).toArray = ls at hl ⊢
  have hl : lv_has ls 6 [(0, .ref (h 0)), (1, .int p0), (2, .int p1), (3, .int p2), (4, .ref o)] := hl
  skip
  refine lv_aload hx hb dL_part_0 (lv_at hl 4 rfl) ?_
  refine lv_iconst (v := 0) hx hb dL_part_2 (by decide) ?_
  refine lv_aload_n hx hb dL_part_3 rfl (lv_at hl 0 rfl) ?_
  refine lv_iload_n hx hb dL_part_4 rfl (lv_at hl 1 rfl) ?_
  refine lv_iload_n hx hb dL_part_5 rfl (lv_at hl 2 rfl) ?_
  refine lv_iload_n hx hb dL_part_6 rfl (lv_at hl 3 rfl) ?_
  have hPc := hP.sub (ws' := [((h 0), .inr (11, [.ref (h 1), .ref (h 9), .int 0, .int 0, .ref (h 20), .ref (h 37), .int 0, .ref (h 38), .ref (h 42), .ref (h 43), .ref (h 44), .ref (h 45), .ref (h 46), .ref (h 47), .ref (h 48)])), ((h 1), .inr (8, [.ref (h 2), .int 0, .ref (h 3), .ref (h 4), .int 0, .ref (h 5), .int 0, .ref (h 6), .int 0, .ref (h 7), .int 0])), ((h 3), .inl ((cs 9), 10, .inr (.inr (.inr (.inr (fun _ => none))))))]) [0, 1, 2] rfl
  have hDc := hD.sub (ws' := [((h 0), .inr (11, [.ref (h 1), .ref (h 9), .int 0, .int 0, .ref (h 20), .ref (h 37), .int 0, .ref (h 38), .ref (h 42), .ref (h 43), .ref (h 44), .ref (h 45), .ref (h 46), .ref (h 47), .ref (h 48)])), ((h 1), .inr (8, [.ref (h 2), .int 0, .ref (h 3), .ref (h 4), .int 0, .ref (h 5), .int 0, .ref (h 6), .int 0, .ref (h 7), .int 0])), ((h 3), .inl ((cs 9), 10, .inr (.inr (.inr (.inr (fun _ => none))))))]) [0, 1, 2] (by decide) rfl
  have hKc := hK.sub (tys' := [((cs 9), .object RX9)]) [0] rfl
  have hFc := va_free (wc := [((h 0), .inr (11, [.ref (h 1), .ref (h 9), .int 0, .int 0, .ref (h 20), .ref (h 37), .int 0, .ref (h 38), .ref (h 42), .ref (h 43), .ref (h 44), .ref (h 45), .ref (h 46), .ref (h 47), .ref (h 48)])), ((h 1), .inr (8, [.ref (h 2), .int 0, .ref (h 3), .ref (h 4), .int 0, .ref (h 5), .int 0, .ref (h 6), .int 0, .ref (h 7), .int 0])), ((h 3), .inl ((cs 9), 10, .inr (.inr (.inr (.inr (fun _ => none))))))]) hD hS hA [0, 1, 2] rfl
  refine vx_calli (vx_runV (As := [.int p0, .int p1, .int p2]) (rest := [.int 0, .ref o]) ⟨hx, hb, hml, hown, ht⟩ (k_X11_part l hl0 _ D h cs p0 p1 p2) (cwV 3 ht (zG_V zw_606 zw_607 zw_608 zw_404 zw_609) rfl rfl rfl (by decide +kernel) ⟨Nat.le_of_ble_eq_true rfl, Nat.le_of_ble_eq_true rfl⟩) (zW_V (va_recv hK hP (ci := 11) (q0 := 0) rfl rfl) hEx hS hFc hPc hKc hDc) rfl rfl hl.1 rfl (lv_room (Nat.le_of_ble_eq_true rfl)) dL_part_7 ⟨Nat.le_of_ble_eq_true rfl, Nat.le_of_ble_eq_true rfl⟩) hS (fun q _ h => hFc q h) hFc (fun q _ h => hFc q h) (fun E ce q9 uu t H1 locs1 ht0 hvm hpx hB hz1 hk1 hS hcell hv hcl => ?_) (fun r_1 u_1 t H1 locs ht0 hvm hw_1 hB hz1 hk1 hS => ?_)
  · skip
    rcases hB with ⟨rfl, hb9⟩ | ⟨rfl, hb9⟩
    · skip
      obtain ⟨hP, hD⟩ := va_join (wr := [(o, .inl (cL, 1, .inr (.inl (fun _ => 0))))]) (w1 := []) hP hD [0, 1, 2] [3] rfl rfl (by decide) (by decide) hk1 hFc zP_nil zD_nil
      refine vx_catch (name := "java/lang/IndexOutOfBoundsException") hown [] ⟨0, 12, 15, 21⟩ [⟨0, 12, 19, 15⟩] hTab ((fun _ h => nomatch h)) (by decide) (by decide) (ht _ zw_597) (va_Nw.use rfl (hEx.1.2.2.2.1 "java/lang/IndexOutOfBoundsException" (by decide))) hcell hv hcl ?_
      generalize H1 = H at hP hS ⊢
      have hP : va_P D vwCl [(o, .inl (cL, 1, .inr (.inl (fun _ => 0))))] H := hP
      have hD : va_D A [(o, .inl (cL, 1, .inr (.inl (fun _ => 0))))] := hD
      refine W.widen (k := 3) (n := 18) (Nat.le_of_ble_eq_true rfl) (Nat.le_of_ble_eq_true rfl) ?_
      refine lv_astore (lv' := [(5, .ref q9), (0, .ref (h 0)), (1, .int p0), (2, .int p1), (3, .int p2), (4, .ref o)]) hx hb dL_part_15 hl (by decide) rfl (fun ls hl => ?_)
      refine lv_iconst (v := 1) hx hb dL_part_17 (by decide) ?_
      have hP9 := hP.sub (ws' := [(o, .inl (cL, 1, .inr (.inl (fun _ => 0))))]) [0] rfl
      have hD9 := hD.sub (ws' := [(o, .inl (cL, 1, .inr (.inl (fun _ => 0))))]) [0] (by decide) rfl
      have hK9 := hK.sub (tys' := []) [] rfl
      refine W.widen (k := 3) (n := 18) (Nat.le_of_ble_eq_true rfl) (Nat.le_of_ble_eq_true rfl) ?_
      exact W.iret (v := 1) hx hb hr (fun t ht0 hW => ⟨⟨1, 0, rfl, hb9, (fun _ => 0), rfl, zE_of hP9 hK9 hD9 ht0 hW⟩, hS.F ht0⟩) hS.2.2 dL_part_18
    · skip
      obtain ⟨hP, hD⟩ := va_join (wr := [(o, .inl (cL, 1, .inr (.inl (fun _ => 0))))]) (w1 := []) hP hD [0, 1, 2] [3] rfl rfl (by decide) (by decide) hk1 hFc zP_nil zD_nil
      refine vx_catch (name := "java/lang/IllegalStateException") hown [⟨0, 12, 15, 21⟩] ⟨0, 12, 19, 15⟩ [] hTab (List.forall_mem_cons.mpr ⟨.inr ⟨by decide, "java/lang/IndexOutOfBoundsException", ht _ zw_597, hNc ("java/lang/IllegalStateException", "java/lang/IndexOutOfBoundsException") (by decide)⟩, (fun _ h => nomatch h)⟩) (by decide) (by decide) (ht _ zw_610) (va_Nw.use rfl (hEx.1.2.2.2.1 "java/lang/IllegalStateException" (by decide))) hcell hv hcl ?_
      generalize H1 = H at hP hS ⊢
      have hP : va_P D vwCl [(o, .inl (cL, 1, .inr (.inl (fun _ => 0))))] H := hP
      have hD : va_D A [(o, .inl (cL, 1, .inr (.inl (fun _ => 0))))] := hD
      refine W.widen (k := 3) (n := 18) (Nat.le_of_ble_eq_true rfl) (Nat.le_of_ble_eq_true rfl) ?_
      refine lv_astore (lv' := [(5, .ref q9), (0, .ref (h 0)), (1, .int p0), (2, .int p1), (3, .int p2), (4, .ref o)]) hx hb dL_part_19 hl (by decide) rfl (fun ls hl => ?_)
      refine lv_iconst (v := 2) hx hb dL_part_21 (by decide) ?_
      have hP9 := hP.sub (ws' := [(o, .inl (cL, 1, .inr (.inl (fun _ => 0))))]) [0] rfl
      have hD9 := hD.sub (ws' := [(o, .inl (cL, 1, .inr (.inl (fun _ => 0))))]) [0] (by decide) rfl
      have hK9 := hK.sub (tys' := []) [] rfl
      refine W.widen (k := 3) (n := 18) (Nat.le_of_ble_eq_true rfl) (Nat.le_of_ble_eq_true rfl) ?_
      exact W.iret (v := 2) hx hb hr (fun t ht0 hW => ⟨⟨2, 0, rfl, hb9, (fun _ => 0), rfl, zE_of hP9 hK9 hD9 ht0 hW⟩, hS.F ht0⟩) hS.2.2 dL_part_22
  obtain ⟨hP1, hK1, hD1⟩ := hB
  rw [ht0] at hP1
  have hK1 := va_K.moved hvm.symm hK1
  obtain ⟨hP, hD⟩ := va_join (wr := [(o, .inl (cL, 1, .inr (.inl (fun _ => 0))))]) (w1 := []) hP hD [0, 1, 2] [3] rfl rfl (by decide) (by decide) hk1 hFc hP1 hD1
  generalize H1 = H at hP hS ⊢
  have hP : va_P D vwCl [(o, .inl (cL, 1, .inr (.inl (fun _ => 0))))] H := hP
  have hD : va_D A [(o, .inl (cL, 1, .inr (.inl (fun _ => 0))))] := hD
  refine W.widen (k := 3) (n := 18) (Nat.le_of_ble_eq_true rfl) (Nat.le_of_ble_eq_true rfl) ?_
  exfalso
  unfold zS_part at hw_1
  rcases hw_1 with ⟨h9, -⟩ | ⟨h9, -⟩
  · exact absurd h9 (by decide)
  · exact absurd h9 (by decide)
set_option maxHeartbeats 4000000 in
set_option maxRecDepth 100000 in
theorem k_L_law (l : Launch) (hl0 : l.stackTraces = false) (sz : Nat) (D : va_G) (h cs : Nat → Nat) (p0 p1 p2 p3 : Int32) (o : Nat) (cL : ClassId) : Met l yL_law (.codeWith yL_law cL_law 7 (some .int) [(0, 14, 17, 13), (0, 14, 21, 21), (0, 14, 25, 15)] :: zT) ({ frames := 8, cells := 6, slots := 39, locals := 137 }) (va_Pc [.ref (h 0), .int p0, .int p1, .int p2, .int p3, .ref o] (zY D [((h 0), .inr (11, [.ref (h 1), .ref (h 9), .int 0, .int 0, .ref (h 20), .ref (h 37), .int 0, .ref (h 38), .ref (h 42), .ref (h 43), .ref (h 44), .ref (h 45), .ref (h 46), .ref (h 47), .ref (h 48)])), ((h 1), .inr (8, [.ref (h 2), .int 0, .ref (h 3), .ref (h 4), .int 0, .ref (h 5), .int 0, .ref (h 6), .int 0, .ref (h 7), .int 0])), ((h 3), .inl ((cs 9), 10, .inr (.inr (.inr (.inr (fun _ => none)))))), (o, .inl (cL, 1, .inr (.inl (fun _ => 0))))] [((cs 9), .object RX9), (cL, .long)] sz)) (va_Qi (fun (r u : Int32) => zS_law p0 p1 p2 p3 r u) (fun u t => ∃ g2 : Nat → Int64, g2 0 = u.toInt64 ∧ zE D [(o, .inl (cL, 1, .inr (.inl g2)))] [] (va_A [((h 0), .inr (11, [.ref (h 1), .ref (h 9), .int 0, .int 0, .ref (h 20), .ref (h 37), .int 0, .ref (h 38), .ref (h 42), .ref (h 43), .ref (h 44), .ref (h 45), .ref (h 46), .ref (h 47), .ref (h 48)])), ((h 1), .inr (8, [.ref (h 2), .int 0, .ref (h 3), .ref (h 4), .int 0, .ref (h 5), .int 0, .ref (h 6), .int 0, .ref (h 7), .int 0])), ((h 3), .inl ((cs 9), 10, .inr (.inr (.inr (.inr (fun _ => none)))))), (o, .inl (cL, 1, .inr (.inl (fun _ => 0))))] sz) t) (va_A [((h 0), .inr (11, [.ref (h 1), .ref (h 9), .int 0, .int 0, .ref (h 20), .ref (h 37), .int 0, .ref (h 38), .ref (h 42), .ref (h 43), .ref (h 44), .ref (h 45), .ref (h 46), .ref (h 47), .ref (h 48)])), ((h 1), .inr (8, [.ref (h 2), .int 0, .ref (h 3), .ref (h 4), .int 0, .ref (h 5), .int 0, .ref (h 6), .int 0, .ref (h 7), .int 0])), ((h 3), .inl ((cs 9), 10, .inr (.inr (.inr (.inr (fun _ => none)))))), (o, .inl (cL, 1, .inr (.inl (fun _ => 0))))] sz)) 6 39 (va_A [((h 0), .inr (11, [.ref (h 1), .ref (h 9), .int 0, .int 0, .ref (h 20), .ref (h 37), .int 0, .ref (h 38), .ref (h 42), .ref (h 43), .ref (h 44), .ref (h 45), .ref (h 46), .ref (h 47), .ref (h 48)])), ((h 1), .inr (8, [.ref (h 2), .int 0, .ref (h 3), .ref (h 4), .int 0, .ref (h 5), .int 0, .ref (h 6), .int 0, .ref (h 7), .int 0])), ((h 3), .inl ((cs 9), 10, .inr (.inr (.inr (.inr (fun _ => none)))))), (o, .inl (cL, 1, .inr (.inl (fun _ => 0))))] sz) := by
  refine zOfWH (cc := cL_law) (maxL := 7) (ret := (some .int)) (by decide) rfl ?_
  intro p e s m args below meth c s₁ B hml hv
  obtain ⟨rfl, hNc, hEx, hsz, hP, hK, hD0⟩ := hv
  have hx := B.exec
  have hb := B.bytes
  have hr := B.returns
  have hts := atoms_spec (ws := (.codeWith yL_law cL_law 7 (some .int) [(0, 14, 17, 13), (0, 14, 21, 21), (0, 14, 25, 15)] :: zT)) B.pre
  have ht : ∀ w ∈ zT, w.before _ s = true := fun w h => hts w (List.mem_cons_of_mem _ h)
  have hown : s.vm.findClass RL = some m.cls := findClass_of_methodNamed B.named
  have hlocks := B.notSynchronized
  have hTab := vx_table (x := yL_law) B (hts _ List.mem_cons_self)
  subst hsz
  have hD := hD0.self (sz := s.heap.size)
  generalize hAe : va_A [((h 0), .inr (11, [.ref (h 1), .ref (h 9), .int 0, .int 0, .ref (h 20), .ref (h 37), .int 0, .ref (h 38), .ref (h 42), .ref (h 43), .ref (h 44), .ref (h 45), .ref (h 46), .ref (h 47), .ref (h 48)])), ((h 1), .inr (8, [.ref (h 2), .int 0, .ref (h 3), .ref (h 4), .int 0, .ref (h 5), .int 0, .ref (h 6), .int 0, .ref (h 7), .int 0])), ((h 3), .inl ((cs 9), 10, .inr (.inr (.inr (.inr (fun _ => none)))))), (o, .inl (cL, 1, .inr (.inl (fun _ => 0))))] s.heap.size = A at hD hEx ⊢
  have hA : ∀ q : Nat, s.heap.size ≤ q → A q := fun q h => by rw [← hAe]; exact Or.inr h
  have hS : va_S A s.heap s.heap [] := va_S.rf
  have hP : va_P D vwCl [((h 0), .inr (11, [.ref (h 1), .ref (h 9), .int 0, .int 0, .ref (h 20), .ref (h 37), .int 0, .ref (h 38), .ref (h 42), .ref (h 43), .ref (h 44), .ref (h 45), .ref (h 46), .ref (h 47), .ref (h 48)])), ((h 1), .inr (8, [.ref (h 2), .int 0, .ref (h 3), .ref (h 4), .int 0, .ref (h 5), .int 0, .ref (h 6), .int 0, .ref (h 7), .int 0])), ((h 3), .inl ((cs 9), 10, .inr (.inr (.inr (.inr (fun _ => none)))))), (o, .inl (cL, 1, .inr (.inl (fun _ => 0))))] s.heap := hP
  have hl := lv_entry ([.ref (h 0), .int p0, .int p1, .int p2, .int p3, .ref o]) (n := 7) (Nat.le_of_ble_eq_true rfl)
  rw [lg_entry_eq]
  generalize (lg_sl ([.ref (h 0), .int p0, .int p1, .int p2, .int p3, .ref o]) ++ List.replicate (7 - (lg_sl ([.ref (h 0), .int p0, .int p1, .int p2, .int p3, .ref o])).length) Slot.unset).toArray = ls at hl ⊢
  have hl : lv_has ls 7 [(0, .ref (h 0)), (1, .int p0), (2, .int p1), (3, .int p2), (4, .int p3), (5, .ref o)] := hl
  skip
  refine lv_aload hx hb dL_law_0 (lv_at hl 5 rfl) ?_
  refine lv_iconst (v := 0) hx hb dL_law_2 (by decide) ?_
  refine lv_aload_n hx hb dL_law_3 rfl (lv_at hl 0 rfl) ?_
  refine lv_iload_n hx hb dL_law_4 rfl (lv_at hl 1 rfl) ?_
  refine lv_iload_n hx hb dL_law_5 rfl (lv_at hl 2 rfl) ?_
  refine lv_iload_n hx hb dL_law_6 rfl (lv_at hl 3 rfl) ?_
  refine lv_iload hx hb dL_law_7 (lv_at hl 4 rfl) ?_
  have hPc := hP.sub (ws' := [((h 0), .inr (11, [.ref (h 1), .ref (h 9), .int 0, .int 0, .ref (h 20), .ref (h 37), .int 0, .ref (h 38), .ref (h 42), .ref (h 43), .ref (h 44), .ref (h 45), .ref (h 46), .ref (h 47), .ref (h 48)])), ((h 1), .inr (8, [.ref (h 2), .int 0, .ref (h 3), .ref (h 4), .int 0, .ref (h 5), .int 0, .ref (h 6), .int 0, .ref (h 7), .int 0])), ((h 3), .inl ((cs 9), 10, .inr (.inr (.inr (.inr (fun _ => none))))))]) [0, 1, 2] rfl
  have hDc := hD.sub (ws' := [((h 0), .inr (11, [.ref (h 1), .ref (h 9), .int 0, .int 0, .ref (h 20), .ref (h 37), .int 0, .ref (h 38), .ref (h 42), .ref (h 43), .ref (h 44), .ref (h 45), .ref (h 46), .ref (h 47), .ref (h 48)])), ((h 1), .inr (8, [.ref (h 2), .int 0, .ref (h 3), .ref (h 4), .int 0, .ref (h 5), .int 0, .ref (h 6), .int 0, .ref (h 7), .int 0])), ((h 3), .inl ((cs 9), 10, .inr (.inr (.inr (.inr (fun _ => none))))))]) [0, 1, 2] (by decide) rfl
  have hKc := hK.sub (tys' := [((cs 9), .object RX9)]) [0] rfl
  have hFc := va_free (wc := [((h 0), .inr (11, [.ref (h 1), .ref (h 9), .int 0, .int 0, .ref (h 20), .ref (h 37), .int 0, .ref (h 38), .ref (h 42), .ref (h 43), .ref (h 44), .ref (h 45), .ref (h 46), .ref (h 47), .ref (h 48)])), ((h 1), .inr (8, [.ref (h 2), .int 0, .ref (h 3), .ref (h 4), .int 0, .ref (h 5), .int 0, .ref (h 6), .int 0, .ref (h 7), .int 0])), ((h 3), .inl ((cs 9), 10, .inr (.inr (.inr (.inr (fun _ => none))))))]) hD hS hA [0, 1, 2] rfl
  refine vx_calli (vx_runV (As := [.int p0, .int p1, .int p2, .int p3]) (rest := [.int 0, .ref o]) ⟨hx, hb, hml, hown, ht⟩ (k_X11_law l hl0 _ D h cs p0 p1 p2 p3) (cwV 4 ht (zG_V zw_611 zw_612 zw_613 zw_404 zw_614) rfl rfl rfl (by decide +kernel) ⟨Nat.le_of_ble_eq_true rfl, Nat.le_of_ble_eq_true rfl⟩) (zW_V (va_recv hK hP (ci := 11) (q0 := 0) rfl rfl) hEx hS hFc hPc hKc hDc) rfl rfl hl.1 rfl (lv_room (Nat.le_of_ble_eq_true rfl)) dL_law_9 ⟨Nat.le_of_ble_eq_true rfl, Nat.le_of_ble_eq_true rfl⟩) hS (fun q _ h => hFc q h) hFc (fun q _ h => hFc q h) (fun E ce q9 uu t H1 locs1 ht0 hvm hpx hB hz1 hk1 hS hcell hv hcl => ?_) (fun r_1 u_1 t H1 locs ht0 hvm hw_1 hB hz1 hk1 hS => ?_)
  · skip
    rcases hB with ⟨rfl, hb9⟩ | ⟨rfl, hb9⟩ | ⟨rfl, hb9⟩
    · skip
      obtain ⟨hP, hD⟩ := va_join (wr := [(o, .inl (cL, 1, .inr (.inl (fun _ => 0))))]) (w1 := []) hP hD [0, 1, 2] [3] rfl rfl (by decide) (by decide) hk1 hFc zP_nil zD_nil
      refine vx_catch (name := "java/lang/IllegalArgumentException") hown [] ⟨0, 14, 17, 13⟩ [⟨0, 14, 21, 21⟩, ⟨0, 14, 25, 15⟩] hTab ((fun _ h => nomatch h)) (by decide) (by decide) (ht _ zw_592) (va_Nw.use rfl (hEx.1.2.2.2.1 "java/lang/IllegalArgumentException" (by decide))) hcell hv hcl ?_
      generalize H1 = H at hP hS ⊢
      have hP : va_P D vwCl [(o, .inl (cL, 1, .inr (.inl (fun _ => 0))))] H := hP
      have hD : va_D A [(o, .inl (cL, 1, .inr (.inl (fun _ => 0))))] := hD
      refine W.widen (k := 6) (n := 39) (Nat.le_of_ble_eq_true rfl) (Nat.le_of_ble_eq_true rfl) ?_
      refine lv_astore (lv' := [(6, .ref q9), (0, .ref (h 0)), (1, .int p0), (2, .int p1), (3, .int p2), (4, .int p3), (5, .ref o)]) hx hb dL_law_17 hl (by decide) rfl (fun ls hl => ?_)
      refine lv_iconst (v := 1) hx hb dL_law_19 (by decide) ?_
      have hP9 := hP.sub (ws' := [(o, .inl (cL, 1, .inr (.inl (fun _ => 0))))]) [0] rfl
      have hD9 := hD.sub (ws' := [(o, .inl (cL, 1, .inr (.inl (fun _ => 0))))]) [0] (by decide) rfl
      have hK9 := hK.sub (tys' := []) [] rfl
      refine W.widen (k := 6) (n := 39) (Nat.le_of_ble_eq_true rfl) (Nat.le_of_ble_eq_true rfl) ?_
      exact W.iret (v := 1) hx hb hr (fun t ht0 hW => ⟨⟨1, 0, rfl, hb9, (fun _ => 0), rfl, zE_of hP9 hK9 hD9 ht0 hW⟩, hS.F ht0⟩) hS.2.2 dL_law_20
    · skip
      obtain ⟨hP, hD⟩ := va_join (wr := [(o, .inl (cL, 1, .inr (.inl (fun _ => 0))))]) (w1 := []) hP hD [0, 1, 2] [3] rfl rfl (by decide) (by decide) hk1 hFc zP_nil zD_nil
      refine vx_catch (name := "java/lang/IndexOutOfBoundsException") hown [⟨0, 14, 17, 13⟩] ⟨0, 14, 21, 21⟩ [⟨0, 14, 25, 15⟩] hTab (List.forall_mem_cons.mpr ⟨.inr ⟨by decide, "java/lang/IllegalArgumentException", ht _ zw_592, hNc ("java/lang/IndexOutOfBoundsException", "java/lang/IllegalArgumentException") (by decide)⟩, (fun _ h => nomatch h)⟩) (by decide) (by decide) (ht _ zw_597) (va_Nw.use rfl (hEx.1.2.2.2.1 "java/lang/IndexOutOfBoundsException" (by decide))) hcell hv hcl ?_
      generalize H1 = H at hP hS ⊢
      have hP : va_P D vwCl [(o, .inl (cL, 1, .inr (.inl (fun _ => 0))))] H := hP
      have hD : va_D A [(o, .inl (cL, 1, .inr (.inl (fun _ => 0))))] := hD
      refine W.widen (k := 6) (n := 39) (Nat.le_of_ble_eq_true rfl) (Nat.le_of_ble_eq_true rfl) ?_
      refine lv_astore (lv' := [(6, .ref q9), (0, .ref (h 0)), (1, .int p0), (2, .int p1), (3, .int p2), (4, .int p3), (5, .ref o)]) hx hb dL_law_21 hl (by decide) rfl (fun ls hl => ?_)
      refine lv_iconst (v := 2) hx hb dL_law_23 (by decide) ?_
      have hP9 := hP.sub (ws' := [(o, .inl (cL, 1, .inr (.inl (fun _ => 0))))]) [0] rfl
      have hD9 := hD.sub (ws' := [(o, .inl (cL, 1, .inr (.inl (fun _ => 0))))]) [0] (by decide) rfl
      have hK9 := hK.sub (tys' := []) [] rfl
      refine W.widen (k := 6) (n := 39) (Nat.le_of_ble_eq_true rfl) (Nat.le_of_ble_eq_true rfl) ?_
      exact W.iret (v := 2) hx hb hr (fun t ht0 hW => ⟨⟨2, 0, rfl, hb9, (fun _ => 0), rfl, zE_of hP9 hK9 hD9 ht0 hW⟩, hS.F ht0⟩) hS.2.2 dL_law_24
    · skip
      obtain ⟨hP, hD⟩ := va_join (wr := [(o, .inl (cL, 1, .inr (.inl (fun _ => 0))))]) (w1 := []) hP hD [0, 1, 2] [3] rfl rfl (by decide) (by decide) hk1 hFc zP_nil zD_nil
      refine vx_catch (name := "java/lang/IllegalStateException") hown [⟨0, 14, 17, 13⟩, ⟨0, 14, 21, 21⟩] ⟨0, 14, 25, 15⟩ [] hTab (List.forall_mem_cons.mpr ⟨.inr ⟨by decide, "java/lang/IllegalArgumentException", ht _ zw_592, hNc ("java/lang/IllegalStateException", "java/lang/IllegalArgumentException") (by decide)⟩, List.forall_mem_cons.mpr ⟨.inr ⟨by decide, "java/lang/IndexOutOfBoundsException", ht _ zw_597, hNc ("java/lang/IllegalStateException", "java/lang/IndexOutOfBoundsException") (by decide)⟩, (fun _ h => nomatch h)⟩⟩) (by decide) (by decide) (ht _ zw_610) (va_Nw.use rfl (hEx.1.2.2.2.1 "java/lang/IllegalStateException" (by decide))) hcell hv hcl ?_
      generalize H1 = H at hP hS ⊢
      have hP : va_P D vwCl [(o, .inl (cL, 1, .inr (.inl (fun _ => 0))))] H := hP
      have hD : va_D A [(o, .inl (cL, 1, .inr (.inl (fun _ => 0))))] := hD
      refine W.widen (k := 6) (n := 39) (Nat.le_of_ble_eq_true rfl) (Nat.le_of_ble_eq_true rfl) ?_
      refine lv_astore (lv' := [(6, .ref q9), (0, .ref (h 0)), (1, .int p0), (2, .int p1), (3, .int p2), (4, .int p3), (5, .ref o)]) hx hb dL_law_25 hl (by decide) rfl (fun ls hl => ?_)
      refine lv_iconst (v := 3) hx hb dL_law_27 (by decide) ?_
      have hP9 := hP.sub (ws' := [(o, .inl (cL, 1, .inr (.inl (fun _ => 0))))]) [0] rfl
      have hD9 := hD.sub (ws' := [(o, .inl (cL, 1, .inr (.inl (fun _ => 0))))]) [0] (by decide) rfl
      have hK9 := hK.sub (tys' := []) [] rfl
      refine W.widen (k := 6) (n := 39) (Nat.le_of_ble_eq_true rfl) (Nat.le_of_ble_eq_true rfl) ?_
      exact W.iret (v := 3) hx hb hr (fun t ht0 hW => ⟨⟨3, 0, rfl, hb9, (fun _ => 0), rfl, zE_of hP9 hK9 hD9 ht0 hW⟩, hS.F ht0⟩) hS.2.2 dL_law_28
  obtain ⟨hP1, hK1, hD1⟩ := hB
  rw [ht0] at hP1
  have hK1 := va_K.moved hvm.symm hK1
  obtain ⟨hP, hD⟩ := va_join (wr := [(o, .inl (cL, 1, .inr (.inl (fun _ => 0))))]) (w1 := []) hP hD [0, 1, 2] [3] rfl rfl (by decide) (by decide) hk1 hFc hP1 hD1
  generalize H1 = H at hP hS ⊢
  have hP : va_P D vwCl [(o, .inl (cL, 1, .inr (.inl (fun _ => 0))))] H := hP
  have hD : va_D A [(o, .inl (cL, 1, .inr (.inl (fun _ => 0))))] := hD
  refine W.widen (k := 6) (n := 39) (Nat.le_of_ble_eq_true rfl) (Nat.le_of_ble_eq_true rfl) ?_
  exfalso
  unfold zS_law at hw_1
  rcases hw_1 with ⟨h9, -⟩ | ⟨h9, -⟩ | ⟨h9, -⟩
  · exact absurd h9 (by decide)
  · exact absurd h9 (by decide)
  · exact absurd h9 (by decide)
set_option maxHeartbeats 4000000 in
set_option maxRecDepth 100000 in
theorem k_L_condition (l : Launch) (hl0 : l.stackTraces = false) (sz : Nat) (D : va_G) (h cs : Nat → Nat) (p0 p1 p2 : Int32) (o : Nat) (cL : ClassId) : Met l yL_condition (.codeWith yL_condition cL_condition 6 (some .int) [(0, 19, 22, 41), (0, 19, 26, 21), (0, 19, 30, 15), (0, 19, 34, 13)] :: zT) ({ frames := 8, cells := 1, slots := 6, locals := 139 }) (va_Pc [.ref (h 0), .int p0, .int p1, .int p2, .ref o] (zY D [((h 0), .inr (11, [.ref (h 1), .ref (h 9), .int 0, .int 0, .ref (h 20), .ref (h 37), .int 0, .ref (h 38), .ref (h 42), .ref (h 43), .ref (h 44), .ref (h 45), .ref (h 46), .ref (h 47), .ref (h 48)])), ((h 1), .inr (8, [.ref (h 2), .int 0, .ref (h 3), .ref (h 4), .int 0, .ref (h 5), .int 0, .ref (h 6), .int 0, .ref (h 7), .int 0])), ((h 4), .inl ((cs 4), 100, .inr (.inr (.inr (.inr (fun _ => none)))))), (o, .inl (cL, 1, .inr (.inl (fun _ => 0))))] [((cs 4), .object RX4), (cL, .long)] sz)) (va_Qi (fun (r u : Int32) => zS_condition p0 p1 p2 r u) (fun u t => ∃ g2 : Nat → Int64, g2 0 = u.toInt64 ∧ zE D [(o, .inl (cL, 1, .inr (.inl g2)))] [] (va_A [((h 0), .inr (11, [.ref (h 1), .ref (h 9), .int 0, .int 0, .ref (h 20), .ref (h 37), .int 0, .ref (h 38), .ref (h 42), .ref (h 43), .ref (h 44), .ref (h 45), .ref (h 46), .ref (h 47), .ref (h 48)])), ((h 1), .inr (8, [.ref (h 2), .int 0, .ref (h 3), .ref (h 4), .int 0, .ref (h 5), .int 0, .ref (h 6), .int 0, .ref (h 7), .int 0])), ((h 4), .inl ((cs 4), 100, .inr (.inr (.inr (.inr (fun _ => none)))))), (o, .inl (cL, 1, .inr (.inl (fun _ => 0))))] sz) t) (va_A [((h 0), .inr (11, [.ref (h 1), .ref (h 9), .int 0, .int 0, .ref (h 20), .ref (h 37), .int 0, .ref (h 38), .ref (h 42), .ref (h 43), .ref (h 44), .ref (h 45), .ref (h 46), .ref (h 47), .ref (h 48)])), ((h 1), .inr (8, [.ref (h 2), .int 0, .ref (h 3), .ref (h 4), .int 0, .ref (h 5), .int 0, .ref (h 6), .int 0, .ref (h 7), .int 0])), ((h 4), .inl ((cs 4), 100, .inr (.inr (.inr (.inr (fun _ => none)))))), (o, .inl (cL, 1, .inr (.inl (fun _ => 0))))] sz)) 1 6 (va_A [((h 0), .inr (11, [.ref (h 1), .ref (h 9), .int 0, .int 0, .ref (h 20), .ref (h 37), .int 0, .ref (h 38), .ref (h 42), .ref (h 43), .ref (h 44), .ref (h 45), .ref (h 46), .ref (h 47), .ref (h 48)])), ((h 1), .inr (8, [.ref (h 2), .int 0, .ref (h 3), .ref (h 4), .int 0, .ref (h 5), .int 0, .ref (h 6), .int 0, .ref (h 7), .int 0])), ((h 4), .inl ((cs 4), 100, .inr (.inr (.inr (.inr (fun _ => none)))))), (o, .inl (cL, 1, .inr (.inl (fun _ => 0))))] sz) := by
  refine zOfWH (cc := cL_condition) (maxL := 6) (ret := (some .int)) (by decide) rfl ?_
  intro p e s m args below meth c s₁ B hml hv
  obtain ⟨rfl, hNc, hEx, hsz, hP, hK, hD0⟩ := hv
  have hx := B.exec
  have hb := B.bytes
  have hr := B.returns
  have hts := atoms_spec (ws := (.codeWith yL_condition cL_condition 6 (some .int) [(0, 19, 22, 41), (0, 19, 26, 21), (0, 19, 30, 15), (0, 19, 34, 13)] :: zT)) B.pre
  have ht : ∀ w ∈ zT, w.before _ s = true := fun w h => hts w (List.mem_cons_of_mem _ h)
  have hown : s.vm.findClass RL = some m.cls := findClass_of_methodNamed B.named
  have hlocks := B.notSynchronized
  have hTab := vx_table (x := yL_condition) B (hts _ List.mem_cons_self)
  subst hsz
  have hD := hD0.self (sz := s.heap.size)
  generalize hAe : va_A [((h 0), .inr (11, [.ref (h 1), .ref (h 9), .int 0, .int 0, .ref (h 20), .ref (h 37), .int 0, .ref (h 38), .ref (h 42), .ref (h 43), .ref (h 44), .ref (h 45), .ref (h 46), .ref (h 47), .ref (h 48)])), ((h 1), .inr (8, [.ref (h 2), .int 0, .ref (h 3), .ref (h 4), .int 0, .ref (h 5), .int 0, .ref (h 6), .int 0, .ref (h 7), .int 0])), ((h 4), .inl ((cs 4), 100, .inr (.inr (.inr (.inr (fun _ => none)))))), (o, .inl (cL, 1, .inr (.inl (fun _ => 0))))] s.heap.size = A at hD hEx ⊢
  have hA : ∀ q : Nat, s.heap.size ≤ q → A q := fun q h => by rw [← hAe]; exact Or.inr h
  have hS : va_S A s.heap s.heap [] := va_S.rf
  have hP : va_P D vwCl [((h 0), .inr (11, [.ref (h 1), .ref (h 9), .int 0, .int 0, .ref (h 20), .ref (h 37), .int 0, .ref (h 38), .ref (h 42), .ref (h 43), .ref (h 44), .ref (h 45), .ref (h 46), .ref (h 47), .ref (h 48)])), ((h 1), .inr (8, [.ref (h 2), .int 0, .ref (h 3), .ref (h 4), .int 0, .ref (h 5), .int 0, .ref (h 6), .int 0, .ref (h 7), .int 0])), ((h 4), .inl ((cs 4), 100, .inr (.inr (.inr (.inr (fun _ => none)))))), (o, .inl (cL, 1, .inr (.inl (fun _ => 0))))] s.heap := hP
  have hl := lv_entry ([.ref (h 0), .int p0, .int p1, .int p2, .ref o]) (n := 6) (Nat.le_of_ble_eq_true rfl)
  rw [lg_entry_eq]
  generalize (lg_sl ([.ref (h 0), .int p0, .int p1, .int p2, .ref o]) ++ List.replicate (6 - (lg_sl ([.ref (h 0), .int p0, .int p1, .int p2, .ref o])).length) Slot.unset).toArray = ls at hl ⊢
  have hl : lv_has ls 6 [(0, .ref (h 0)), (1, .int p0), (2, .int p1), (3, .int p2), (4, .ref o)] := hl
  skip
  refine lv_aload hx hb dL_condition_0 (lv_at hl 4 rfl) ?_
  refine lv_iconst (v := 0) hx hb dL_condition_2 (by decide) ?_
  refine lv_aload_n hx hb dL_condition_3 rfl (lv_at hl 0 rfl) ?_
  refine lv_iload_n hx hb dL_condition_4 rfl (lv_at hl 1 rfl) ?_
  refine lv_iload_n hx hb dL_condition_5 rfl (lv_at hl 2 rfl) ?_
  refine lv_iload_n hx hb dL_condition_6 rfl (lv_at hl 3 rfl) ?_
  have hPc := hP.sub (ws' := [((h 0), .inr (11, [.ref (h 1), .ref (h 9), .int 0, .int 0, .ref (h 20), .ref (h 37), .int 0, .ref (h 38), .ref (h 42), .ref (h 43), .ref (h 44), .ref (h 45), .ref (h 46), .ref (h 47), .ref (h 48)])), ((h 1), .inr (8, [.ref (h 2), .int 0, .ref (h 3), .ref (h 4), .int 0, .ref (h 5), .int 0, .ref (h 6), .int 0, .ref (h 7), .int 0])), ((h 4), .inl ((cs 4), 100, .inr (.inr (.inr (.inr (fun _ => none))))))]) [0, 1, 2] rfl
  have hDc := hD.sub (ws' := [((h 0), .inr (11, [.ref (h 1), .ref (h 9), .int 0, .int 0, .ref (h 20), .ref (h 37), .int 0, .ref (h 38), .ref (h 42), .ref (h 43), .ref (h 44), .ref (h 45), .ref (h 46), .ref (h 47), .ref (h 48)])), ((h 1), .inr (8, [.ref (h 2), .int 0, .ref (h 3), .ref (h 4), .int 0, .ref (h 5), .int 0, .ref (h 6), .int 0, .ref (h 7), .int 0])), ((h 4), .inl ((cs 4), 100, .inr (.inr (.inr (.inr (fun _ => none))))))]) [0, 1, 2] (by decide) rfl
  have hKc := hK.sub (tys' := [((cs 4), .object RX4)]) [0] rfl
  have hFc := va_free (wc := [((h 0), .inr (11, [.ref (h 1), .ref (h 9), .int 0, .int 0, .ref (h 20), .ref (h 37), .int 0, .ref (h 38), .ref (h 42), .ref (h 43), .ref (h 44), .ref (h 45), .ref (h 46), .ref (h 47), .ref (h 48)])), ((h 1), .inr (8, [.ref (h 2), .int 0, .ref (h 3), .ref (h 4), .int 0, .ref (h 5), .int 0, .ref (h 6), .int 0, .ref (h 7), .int 0])), ((h 4), .inl ((cs 4), 100, .inr (.inr (.inr (.inr (fun _ => none))))))]) hD hS hA [0, 1, 2] rfl
  refine vx_calli (vx_runV (As := [.int p0, .int p1, .int p2]) (rest := [.int 0, .ref o]) ⟨hx, hb, hml, hown, ht⟩ (k_X11_condition l hl0 _ D h cs p0 p1 p2) (cwV 3 ht (zG_V zw_615 zw_616 zw_617 zw_404 zw_618) rfl rfl rfl (by decide +kernel) ⟨Nat.le_of_ble_eq_true rfl, Nat.le_of_ble_eq_true rfl⟩) (zW_V (va_recv hK hP (ci := 11) (q0 := 0) rfl rfl) hEx hS hFc hPc hKc hDc) rfl rfl hl.1 rfl (lv_room (Nat.le_of_ble_eq_true rfl)) dL_condition_7 ⟨Nat.le_of_ble_eq_true rfl, Nat.le_of_ble_eq_true rfl⟩) hS (fun q _ h => hFc q h) hFc (fun q _ h => hFc q h) (fun E ce q9 uu t H1 locs1 ht0 hvm hpx hB hz1 hk1 hS hcell hv hcl => ?_) (fun r_1 u_1 t H1 locs ht0 hvm hw_1 hB hz1 hk1 hS => ?_)
  · skip
    obtain ⟨rfl, hb9⟩ := hB
    obtain ⟨hP, hD⟩ := va_join (wr := [(o, .inl (cL, 1, .inr (.inl (fun _ => 0))))]) (w1 := []) hP hD [0, 1, 2] [3] rfl rfl (by decide) (by decide) hk1 hFc zP_nil zD_nil
    refine vx_catch (name := "java/util/NoSuchElementException") hown [] ⟨0, 19, 22, 41⟩ [⟨0, 19, 26, 21⟩, ⟨0, 19, 30, 15⟩, ⟨0, 19, 34, 13⟩] hTab ((fun _ h => nomatch h)) (by decide) (by decide) (ht _ zw_619) (va_Nw.use rfl (hEx.1.2.2.2.1 "java/util/NoSuchElementException" (by decide))) hcell hv hcl ?_
    generalize H1 = H at hP hS ⊢
    have hP : va_P D vwCl [(o, .inl (cL, 1, .inr (.inl (fun _ => 0))))] H := hP
    have hD : va_D A [(o, .inl (cL, 1, .inr (.inl (fun _ => 0))))] := hD
    refine W.widen (k := 1) (n := 6) (Nat.le_of_ble_eq_true rfl) (Nat.le_of_ble_eq_true rfl) ?_
    refine lv_astore (lv' := [(5, .ref q9), (0, .ref (h 0)), (1, .int p0), (2, .int p1), (3, .int p2), (4, .ref o)]) hx hb dL_condition_22 hl (by decide) rfl (fun ls hl => ?_)
    refine lv_iconst (v := 1) hx hb dL_condition_24 (by decide) ?_
    have hP9 := hP.sub (ws' := [(o, .inl (cL, 1, .inr (.inl (fun _ => 0))))]) [0] rfl
    have hD9 := hD.sub (ws' := [(o, .inl (cL, 1, .inr (.inl (fun _ => 0))))]) [0] (by decide) rfl
    have hK9 := hK.sub (tys' := []) [] rfl
    refine W.widen (k := 1) (n := 6) (Nat.le_of_ble_eq_true rfl) (Nat.le_of_ble_eq_true rfl) ?_
    exact W.iret (v := 1) hx hb hr (fun t ht0 hW => ⟨⟨1, 0, rfl, hb9, (fun _ => 0), rfl, zE_of hP9 hK9 hD9 ht0 hW⟩, hS.F ht0⟩) hS.2.2 dL_condition_25
  obtain ⟨hP1, hK1, hD1⟩ := hB
  rw [ht0] at hP1
  have hK1 := va_K.moved hvm.symm hK1
  obtain ⟨hP, hD⟩ := va_join (wr := [(o, .inl (cL, 1, .inr (.inl (fun _ => 0))))]) (w1 := []) hP hD [0, 1, 2] [3] rfl rfl (by decide) (by decide) hk1 hFc hP1 hD1
  generalize H1 = H at hP hS ⊢
  have hP : va_P D vwCl [(o, .inl (cL, 1, .inr (.inl (fun _ => 0))))] H := hP
  have hD : va_D A [(o, .inl (cL, 1, .inr (.inl (fun _ => 0))))] := hD
  refine W.widen (k := 1) (n := 6) (Nat.le_of_ble_eq_true rfl) (Nat.le_of_ble_eq_true rfl) ?_
  exfalso
  unfold zS_condition at hw_1
  obtain ⟨h9, -⟩ := hw_1
  exact absurd h9 (by decide)
set_option maxHeartbeats 4000000 in
set_option maxRecDepth 100000 in
theorem k_L_equivalence (l : Launch) (hl0 : l.stackTraces = false) (sz : Nat) (D : va_G) (h cs : Nat → Nat) (p0 p1 p2 p3 p4 : Int32) (o : Nat) (cL : ClassId) : Met l yL_equivalence (.codeWith yL_equivalence cL_equivalence 8 (some .int) [(0, 16, 19, 13), (0, 16, 23, 21), (0, 16, 27, 15)] :: zT) ({ frames := 8, cells := 7, slots := 45, locals := 139 }) (va_Pc [.ref (h 0), .int p0, .int p1, .int p2, .int p3, .int p4, .ref o] (zY D [((h 0), .inr (11, [.ref (h 1), .ref (h 9), .int 0, .int 0, .ref (h 20), .ref (h 37), .int 0, .ref (h 38), .ref (h 42), .ref (h 43), .ref (h 44), .ref (h 45), .ref (h 46), .ref (h 47), .ref (h 48)])), ((h 1), .inr (8, [.ref (h 2), .int 0, .ref (h 3), .ref (h 4), .int 0, .ref (h 5), .int 0, .ref (h 6), .int 0, .ref (h 7), .int 0])), ((h 3), .inl ((cs 9), 10, .inr (.inr (.inr (.inr (fun _ => none)))))), (o, .inl (cL, 1, .inr (.inl (fun _ => 0))))] [((cs 9), .object RX9), (cL, .long)] sz)) (va_Qi (fun (r u : Int32) => zS_equivalence p0 p1 p2 p3 p4 r u) (fun u t => ∃ g2 : Nat → Int64, g2 0 = u.toInt64 ∧ zE D [(o, .inl (cL, 1, .inr (.inl g2)))] [] (va_A [((h 0), .inr (11, [.ref (h 1), .ref (h 9), .int 0, .int 0, .ref (h 20), .ref (h 37), .int 0, .ref (h 38), .ref (h 42), .ref (h 43), .ref (h 44), .ref (h 45), .ref (h 46), .ref (h 47), .ref (h 48)])), ((h 1), .inr (8, [.ref (h 2), .int 0, .ref (h 3), .ref (h 4), .int 0, .ref (h 5), .int 0, .ref (h 6), .int 0, .ref (h 7), .int 0])), ((h 3), .inl ((cs 9), 10, .inr (.inr (.inr (.inr (fun _ => none)))))), (o, .inl (cL, 1, .inr (.inl (fun _ => 0))))] sz) t) (va_A [((h 0), .inr (11, [.ref (h 1), .ref (h 9), .int 0, .int 0, .ref (h 20), .ref (h 37), .int 0, .ref (h 38), .ref (h 42), .ref (h 43), .ref (h 44), .ref (h 45), .ref (h 46), .ref (h 47), .ref (h 48)])), ((h 1), .inr (8, [.ref (h 2), .int 0, .ref (h 3), .ref (h 4), .int 0, .ref (h 5), .int 0, .ref (h 6), .int 0, .ref (h 7), .int 0])), ((h 3), .inl ((cs 9), 10, .inr (.inr (.inr (.inr (fun _ => none)))))), (o, .inl (cL, 1, .inr (.inl (fun _ => 0))))] sz)) 7 45 (va_A [((h 0), .inr (11, [.ref (h 1), .ref (h 9), .int 0, .int 0, .ref (h 20), .ref (h 37), .int 0, .ref (h 38), .ref (h 42), .ref (h 43), .ref (h 44), .ref (h 45), .ref (h 46), .ref (h 47), .ref (h 48)])), ((h 1), .inr (8, [.ref (h 2), .int 0, .ref (h 3), .ref (h 4), .int 0, .ref (h 5), .int 0, .ref (h 6), .int 0, .ref (h 7), .int 0])), ((h 3), .inl ((cs 9), 10, .inr (.inr (.inr (.inr (fun _ => none)))))), (o, .inl (cL, 1, .inr (.inl (fun _ => 0))))] sz) := by
  refine zOfWH (cc := cL_equivalence) (maxL := 8) (ret := (some .int)) (by decide) rfl ?_
  intro p e s m args below meth c s₁ B hml hv
  obtain ⟨rfl, hNc, hEx, hsz, hP, hK, hD0⟩ := hv
  have hx := B.exec
  have hb := B.bytes
  have hr := B.returns
  have hts := atoms_spec (ws := (.codeWith yL_equivalence cL_equivalence 8 (some .int) [(0, 16, 19, 13), (0, 16, 23, 21), (0, 16, 27, 15)] :: zT)) B.pre
  have ht : ∀ w ∈ zT, w.before _ s = true := fun w h => hts w (List.mem_cons_of_mem _ h)
  have hown : s.vm.findClass RL = some m.cls := findClass_of_methodNamed B.named
  have hlocks := B.notSynchronized
  have hTab := vx_table (x := yL_equivalence) B (hts _ List.mem_cons_self)
  subst hsz
  have hD := hD0.self (sz := s.heap.size)
  generalize hAe : va_A [((h 0), .inr (11, [.ref (h 1), .ref (h 9), .int 0, .int 0, .ref (h 20), .ref (h 37), .int 0, .ref (h 38), .ref (h 42), .ref (h 43), .ref (h 44), .ref (h 45), .ref (h 46), .ref (h 47), .ref (h 48)])), ((h 1), .inr (8, [.ref (h 2), .int 0, .ref (h 3), .ref (h 4), .int 0, .ref (h 5), .int 0, .ref (h 6), .int 0, .ref (h 7), .int 0])), ((h 3), .inl ((cs 9), 10, .inr (.inr (.inr (.inr (fun _ => none)))))), (o, .inl (cL, 1, .inr (.inl (fun _ => 0))))] s.heap.size = A at hD hEx ⊢
  have hA : ∀ q : Nat, s.heap.size ≤ q → A q := fun q h => by rw [← hAe]; exact Or.inr h
  have hS : va_S A s.heap s.heap [] := va_S.rf
  have hP : va_P D vwCl [((h 0), .inr (11, [.ref (h 1), .ref (h 9), .int 0, .int 0, .ref (h 20), .ref (h 37), .int 0, .ref (h 38), .ref (h 42), .ref (h 43), .ref (h 44), .ref (h 45), .ref (h 46), .ref (h 47), .ref (h 48)])), ((h 1), .inr (8, [.ref (h 2), .int 0, .ref (h 3), .ref (h 4), .int 0, .ref (h 5), .int 0, .ref (h 6), .int 0, .ref (h 7), .int 0])), ((h 3), .inl ((cs 9), 10, .inr (.inr (.inr (.inr (fun _ => none)))))), (o, .inl (cL, 1, .inr (.inl (fun _ => 0))))] s.heap := hP
  have hl := lv_entry ([.ref (h 0), .int p0, .int p1, .int p2, .int p3, .int p4, .ref o]) (n := 8) (Nat.le_of_ble_eq_true rfl)
  rw [lg_entry_eq]
  generalize (lg_sl ([.ref (h 0), .int p0, .int p1, .int p2, .int p3, .int p4, .ref o]) ++ List.replicate (8 - (lg_sl ([.ref (h 0), .int p0, .int p1, .int p2, .int p3, .int p4, .ref o])).length) Slot.unset).toArray = ls at hl ⊢
  have hl : lv_has ls 8 [(0, .ref (h 0)), (1, .int p0), (2, .int p1), (3, .int p2), (4, .int p3), (5, .int p4), (6, .ref o)] := hl
  skip
  refine lv_aload hx hb dL_equivalence_0 (lv_at hl 6 rfl) ?_
  refine lv_iconst (v := 0) hx hb dL_equivalence_2 (by decide) ?_
  refine lv_aload_n hx hb dL_equivalence_3 rfl (lv_at hl 0 rfl) ?_
  refine lv_iload_n hx hb dL_equivalence_4 rfl (lv_at hl 1 rfl) ?_
  refine lv_iload_n hx hb dL_equivalence_5 rfl (lv_at hl 2 rfl) ?_
  refine lv_iload_n hx hb dL_equivalence_6 rfl (lv_at hl 3 rfl) ?_
  refine lv_iload hx hb dL_equivalence_7 (lv_at hl 4 rfl) ?_
  refine lv_iload hx hb dL_equivalence_9 (lv_at hl 5 rfl) ?_
  have hPc := hP.sub (ws' := [((h 0), .inr (11, [.ref (h 1), .ref (h 9), .int 0, .int 0, .ref (h 20), .ref (h 37), .int 0, .ref (h 38), .ref (h 42), .ref (h 43), .ref (h 44), .ref (h 45), .ref (h 46), .ref (h 47), .ref (h 48)])), ((h 1), .inr (8, [.ref (h 2), .int 0, .ref (h 3), .ref (h 4), .int 0, .ref (h 5), .int 0, .ref (h 6), .int 0, .ref (h 7), .int 0])), ((h 3), .inl ((cs 9), 10, .inr (.inr (.inr (.inr (fun _ => none))))))]) [0, 1, 2] rfl
  have hDc := hD.sub (ws' := [((h 0), .inr (11, [.ref (h 1), .ref (h 9), .int 0, .int 0, .ref (h 20), .ref (h 37), .int 0, .ref (h 38), .ref (h 42), .ref (h 43), .ref (h 44), .ref (h 45), .ref (h 46), .ref (h 47), .ref (h 48)])), ((h 1), .inr (8, [.ref (h 2), .int 0, .ref (h 3), .ref (h 4), .int 0, .ref (h 5), .int 0, .ref (h 6), .int 0, .ref (h 7), .int 0])), ((h 3), .inl ((cs 9), 10, .inr (.inr (.inr (.inr (fun _ => none))))))]) [0, 1, 2] (by decide) rfl
  have hKc := hK.sub (tys' := [((cs 9), .object RX9)]) [0] rfl
  have hFc := va_free (wc := [((h 0), .inr (11, [.ref (h 1), .ref (h 9), .int 0, .int 0, .ref (h 20), .ref (h 37), .int 0, .ref (h 38), .ref (h 42), .ref (h 43), .ref (h 44), .ref (h 45), .ref (h 46), .ref (h 47), .ref (h 48)])), ((h 1), .inr (8, [.ref (h 2), .int 0, .ref (h 3), .ref (h 4), .int 0, .ref (h 5), .int 0, .ref (h 6), .int 0, .ref (h 7), .int 0])), ((h 3), .inl ((cs 9), 10, .inr (.inr (.inr (.inr (fun _ => none))))))]) hD hS hA [0, 1, 2] rfl
  refine vx_calli (vx_runV (As := [.int p0, .int p1, .int p2, .int p3, .int p4]) (rest := [.int 0, .ref o]) ⟨hx, hb, hml, hown, ht⟩ (k_X11_equivalence l hl0 _ D h cs p0 p1 p2 p3 p4) (cwV 5 ht (zG_V zw_620 zw_621 zw_622 zw_404 zw_623) rfl rfl rfl (by decide +kernel) ⟨Nat.le_of_ble_eq_true rfl, Nat.le_of_ble_eq_true rfl⟩) (zW_V (va_recv hK hP (ci := 11) (q0 := 0) rfl rfl) hEx hS hFc hPc hKc hDc) rfl rfl hl.1 rfl (lv_room (Nat.le_of_ble_eq_true rfl)) dL_equivalence_11 ⟨Nat.le_of_ble_eq_true rfl, Nat.le_of_ble_eq_true rfl⟩) hS (fun q _ h => hFc q h) hFc (fun q _ h => hFc q h) (fun E ce q9 uu t H1 locs1 ht0 hvm hpx hB hz1 hk1 hS hcell hv hcl => ?_) (fun r_1 u_1 t H1 locs ht0 hvm hw_1 hB hz1 hk1 hS => ?_)
  · skip
    rcases hB with ⟨rfl, hb9⟩ | ⟨rfl, hb9⟩ | ⟨rfl, hb9⟩
    · skip
      obtain ⟨hP, hD⟩ := va_join (wr := [(o, .inl (cL, 1, .inr (.inl (fun _ => 0))))]) (w1 := []) hP hD [0, 1, 2] [3] rfl rfl (by decide) (by decide) hk1 hFc zP_nil zD_nil
      refine vx_catch (name := "java/lang/IllegalArgumentException") hown [] ⟨0, 16, 19, 13⟩ [⟨0, 16, 23, 21⟩, ⟨0, 16, 27, 15⟩] hTab ((fun _ h => nomatch h)) (by decide) (by decide) (ht _ zw_592) (va_Nw.use rfl (hEx.1.2.2.2.1 "java/lang/IllegalArgumentException" (by decide))) hcell hv hcl ?_
      generalize H1 = H at hP hS ⊢
      have hP : va_P D vwCl [(o, .inl (cL, 1, .inr (.inl (fun _ => 0))))] H := hP
      have hD : va_D A [(o, .inl (cL, 1, .inr (.inl (fun _ => 0))))] := hD
      refine W.widen (k := 7) (n := 45) (Nat.le_of_ble_eq_true rfl) (Nat.le_of_ble_eq_true rfl) ?_
      refine lv_astore (lv' := [(7, .ref q9), (0, .ref (h 0)), (1, .int p0), (2, .int p1), (3, .int p2), (4, .int p3), (5, .int p4), (6, .ref o)]) hx hb dL_equivalence_19 hl (by decide) rfl (fun ls hl => ?_)
      refine lv_iconst (v := 1) hx hb dL_equivalence_21 (by decide) ?_
      have hP9 := hP.sub (ws' := [(o, .inl (cL, 1, .inr (.inl (fun _ => 0))))]) [0] rfl
      have hD9 := hD.sub (ws' := [(o, .inl (cL, 1, .inr (.inl (fun _ => 0))))]) [0] (by decide) rfl
      have hK9 := hK.sub (tys' := []) [] rfl
      refine W.widen (k := 7) (n := 45) (Nat.le_of_ble_eq_true rfl) (Nat.le_of_ble_eq_true rfl) ?_
      exact W.iret (v := 1) hx hb hr (fun t ht0 hW => ⟨⟨1, 0, rfl, hb9, (fun _ => 0), rfl, zE_of hP9 hK9 hD9 ht0 hW⟩, hS.F ht0⟩) hS.2.2 dL_equivalence_22
    · skip
      obtain ⟨hP, hD⟩ := va_join (wr := [(o, .inl (cL, 1, .inr (.inl (fun _ => 0))))]) (w1 := []) hP hD [0, 1, 2] [3] rfl rfl (by decide) (by decide) hk1 hFc zP_nil zD_nil
      refine vx_catch (name := "java/lang/IndexOutOfBoundsException") hown [⟨0, 16, 19, 13⟩] ⟨0, 16, 23, 21⟩ [⟨0, 16, 27, 15⟩] hTab (List.forall_mem_cons.mpr ⟨.inr ⟨by decide, "java/lang/IllegalArgumentException", ht _ zw_592, hNc ("java/lang/IndexOutOfBoundsException", "java/lang/IllegalArgumentException") (by decide)⟩, (fun _ h => nomatch h)⟩) (by decide) (by decide) (ht _ zw_597) (va_Nw.use rfl (hEx.1.2.2.2.1 "java/lang/IndexOutOfBoundsException" (by decide))) hcell hv hcl ?_
      generalize H1 = H at hP hS ⊢
      have hP : va_P D vwCl [(o, .inl (cL, 1, .inr (.inl (fun _ => 0))))] H := hP
      have hD : va_D A [(o, .inl (cL, 1, .inr (.inl (fun _ => 0))))] := hD
      refine W.widen (k := 7) (n := 45) (Nat.le_of_ble_eq_true rfl) (Nat.le_of_ble_eq_true rfl) ?_
      refine lv_astore (lv' := [(7, .ref q9), (0, .ref (h 0)), (1, .int p0), (2, .int p1), (3, .int p2), (4, .int p3), (5, .int p4), (6, .ref o)]) hx hb dL_equivalence_23 hl (by decide) rfl (fun ls hl => ?_)
      refine lv_iconst (v := 2) hx hb dL_equivalence_25 (by decide) ?_
      have hP9 := hP.sub (ws' := [(o, .inl (cL, 1, .inr (.inl (fun _ => 0))))]) [0] rfl
      have hD9 := hD.sub (ws' := [(o, .inl (cL, 1, .inr (.inl (fun _ => 0))))]) [0] (by decide) rfl
      have hK9 := hK.sub (tys' := []) [] rfl
      refine W.widen (k := 7) (n := 45) (Nat.le_of_ble_eq_true rfl) (Nat.le_of_ble_eq_true rfl) ?_
      exact W.iret (v := 2) hx hb hr (fun t ht0 hW => ⟨⟨2, 0, rfl, hb9, (fun _ => 0), rfl, zE_of hP9 hK9 hD9 ht0 hW⟩, hS.F ht0⟩) hS.2.2 dL_equivalence_26
    · skip
      obtain ⟨hP, hD⟩ := va_join (wr := [(o, .inl (cL, 1, .inr (.inl (fun _ => 0))))]) (w1 := []) hP hD [0, 1, 2] [3] rfl rfl (by decide) (by decide) hk1 hFc zP_nil zD_nil
      refine vx_catch (name := "java/lang/IllegalStateException") hown [⟨0, 16, 19, 13⟩, ⟨0, 16, 23, 21⟩] ⟨0, 16, 27, 15⟩ [] hTab (List.forall_mem_cons.mpr ⟨.inr ⟨by decide, "java/lang/IllegalArgumentException", ht _ zw_592, hNc ("java/lang/IllegalStateException", "java/lang/IllegalArgumentException") (by decide)⟩, List.forall_mem_cons.mpr ⟨.inr ⟨by decide, "java/lang/IndexOutOfBoundsException", ht _ zw_597, hNc ("java/lang/IllegalStateException", "java/lang/IndexOutOfBoundsException") (by decide)⟩, (fun _ h => nomatch h)⟩⟩) (by decide) (by decide) (ht _ zw_610) (va_Nw.use rfl (hEx.1.2.2.2.1 "java/lang/IllegalStateException" (by decide))) hcell hv hcl ?_
      generalize H1 = H at hP hS ⊢
      have hP : va_P D vwCl [(o, .inl (cL, 1, .inr (.inl (fun _ => 0))))] H := hP
      have hD : va_D A [(o, .inl (cL, 1, .inr (.inl (fun _ => 0))))] := hD
      refine W.widen (k := 7) (n := 45) (Nat.le_of_ble_eq_true rfl) (Nat.le_of_ble_eq_true rfl) ?_
      refine lv_astore (lv' := [(7, .ref q9), (0, .ref (h 0)), (1, .int p0), (2, .int p1), (3, .int p2), (4, .int p3), (5, .int p4), (6, .ref o)]) hx hb dL_equivalence_27 hl (by decide) rfl (fun ls hl => ?_)
      refine lv_iconst (v := 3) hx hb dL_equivalence_29 (by decide) ?_
      have hP9 := hP.sub (ws' := [(o, .inl (cL, 1, .inr (.inl (fun _ => 0))))]) [0] rfl
      have hD9 := hD.sub (ws' := [(o, .inl (cL, 1, .inr (.inl (fun _ => 0))))]) [0] (by decide) rfl
      have hK9 := hK.sub (tys' := []) [] rfl
      refine W.widen (k := 7) (n := 45) (Nat.le_of_ble_eq_true rfl) (Nat.le_of_ble_eq_true rfl) ?_
      exact W.iret (v := 3) hx hb hr (fun t ht0 hW => ⟨⟨3, 0, rfl, hb9, (fun _ => 0), rfl, zE_of hP9 hK9 hD9 ht0 hW⟩, hS.F ht0⟩) hS.2.2 dL_equivalence_30
  obtain ⟨hP1, hK1, hD1⟩ := hB
  rw [ht0] at hP1
  have hK1 := va_K.moved hvm.symm hK1
  obtain ⟨hP, hD⟩ := va_join (wr := [(o, .inl (cL, 1, .inr (.inl (fun _ => 0))))]) (w1 := []) hP hD [0, 1, 2] [3] rfl rfl (by decide) (by decide) hk1 hFc hP1 hD1
  generalize H1 = H at hP hS ⊢
  have hP : va_P D vwCl [(o, .inl (cL, 1, .inr (.inl (fun _ => 0))))] H := hP
  have hD : va_D A [(o, .inl (cL, 1, .inr (.inl (fun _ => 0))))] := hD
  refine W.widen (k := 7) (n := 45) (Nat.le_of_ble_eq_true rfl) (Nat.le_of_ble_eq_true rfl) ?_
  exfalso
  unfold zS_equivalence at hw_1
  rcases hw_1 with ⟨h9, -⟩ | ⟨h9, -⟩ | ⟨h9, -⟩
  · exact absurd h9 (by decide)
  · exact absurd h9 (by decide)
  · exact absurd h9 (by decide)
set_option maxHeartbeats 4000000 in
set_option maxRecDepth 100000 in
theorem k_L_assume (l : Launch) (hl0 : l.stackTraces = false) (sz : Nat) (D : va_G) (h cs : Nat → Nat) (p0 p1 : Int32) (o : Nat) (cL : ClassId) : Met l yL_assume (.codeWith yL_assume cL_assume 5 (some .int) [(0, 10, 13, 21), (0, 10, 17, 15)] :: zT) ({ frames := 8, cells := 3, slots := 18, locals := 137 }) (va_Pc [.ref (h 0), .int p0, .int p1, .ref o] (zY D [((h 0), .inr (11, [.ref (h 1), .ref (h 9), .int 0, .int 0, .ref (h 20), .ref (h 37), .int 0, .ref (h 38), .ref (h 42), .ref (h 43), .ref (h 44), .ref (h 45), .ref (h 46), .ref (h 47), .ref (h 48)])), ((h 1), .inr (8, [.ref (h 2), .int 0, .ref (h 3), .ref (h 4), .int 0, .ref (h 5), .int 0, .ref (h 6), .int 0, .ref (h 7), .int 0])), ((h 3), .inl ((cs 9), 10, .inr (.inr (.inr (.inr (fun _ => none)))))), (o, .inl (cL, 1, .inr (.inl (fun _ => 0))))] [((cs 9), .object RX9), (cL, .long)] sz)) (va_Qi (fun (r u : Int32) => zS_assume p0 p1 r u) (fun u t => ∃ g2 : Nat → Int64, g2 0 = u.toInt64 ∧ zE D [(o, .inl (cL, 1, .inr (.inl g2)))] [] (va_A [((h 0), .inr (11, [.ref (h 1), .ref (h 9), .int 0, .int 0, .ref (h 20), .ref (h 37), .int 0, .ref (h 38), .ref (h 42), .ref (h 43), .ref (h 44), .ref (h 45), .ref (h 46), .ref (h 47), .ref (h 48)])), ((h 1), .inr (8, [.ref (h 2), .int 0, .ref (h 3), .ref (h 4), .int 0, .ref (h 5), .int 0, .ref (h 6), .int 0, .ref (h 7), .int 0])), ((h 3), .inl ((cs 9), 10, .inr (.inr (.inr (.inr (fun _ => none)))))), (o, .inl (cL, 1, .inr (.inl (fun _ => 0))))] sz) t) (va_A [((h 0), .inr (11, [.ref (h 1), .ref (h 9), .int 0, .int 0, .ref (h 20), .ref (h 37), .int 0, .ref (h 38), .ref (h 42), .ref (h 43), .ref (h 44), .ref (h 45), .ref (h 46), .ref (h 47), .ref (h 48)])), ((h 1), .inr (8, [.ref (h 2), .int 0, .ref (h 3), .ref (h 4), .int 0, .ref (h 5), .int 0, .ref (h 6), .int 0, .ref (h 7), .int 0])), ((h 3), .inl ((cs 9), 10, .inr (.inr (.inr (.inr (fun _ => none)))))), (o, .inl (cL, 1, .inr (.inl (fun _ => 0))))] sz)) 3 18 (va_A [((h 0), .inr (11, [.ref (h 1), .ref (h 9), .int 0, .int 0, .ref (h 20), .ref (h 37), .int 0, .ref (h 38), .ref (h 42), .ref (h 43), .ref (h 44), .ref (h 45), .ref (h 46), .ref (h 47), .ref (h 48)])), ((h 1), .inr (8, [.ref (h 2), .int 0, .ref (h 3), .ref (h 4), .int 0, .ref (h 5), .int 0, .ref (h 6), .int 0, .ref (h 7), .int 0])), ((h 3), .inl ((cs 9), 10, .inr (.inr (.inr (.inr (fun _ => none)))))), (o, .inl (cL, 1, .inr (.inl (fun _ => 0))))] sz) := by
  refine zOfWH (cc := cL_assume) (maxL := 5) (ret := (some .int)) (by decide) rfl ?_
  intro p e s m args below meth c s₁ B hml hv
  obtain ⟨rfl, hNc, hEx, hsz, hP, hK, hD0⟩ := hv
  have hx := B.exec
  have hb := B.bytes
  have hr := B.returns
  have hts := atoms_spec (ws := (.codeWith yL_assume cL_assume 5 (some .int) [(0, 10, 13, 21), (0, 10, 17, 15)] :: zT)) B.pre
  have ht : ∀ w ∈ zT, w.before _ s = true := fun w h => hts w (List.mem_cons_of_mem _ h)
  have hown : s.vm.findClass RL = some m.cls := findClass_of_methodNamed B.named
  have hlocks := B.notSynchronized
  have hTab := vx_table (x := yL_assume) B (hts _ List.mem_cons_self)
  subst hsz
  have hD := hD0.self (sz := s.heap.size)
  generalize hAe : va_A [((h 0), .inr (11, [.ref (h 1), .ref (h 9), .int 0, .int 0, .ref (h 20), .ref (h 37), .int 0, .ref (h 38), .ref (h 42), .ref (h 43), .ref (h 44), .ref (h 45), .ref (h 46), .ref (h 47), .ref (h 48)])), ((h 1), .inr (8, [.ref (h 2), .int 0, .ref (h 3), .ref (h 4), .int 0, .ref (h 5), .int 0, .ref (h 6), .int 0, .ref (h 7), .int 0])), ((h 3), .inl ((cs 9), 10, .inr (.inr (.inr (.inr (fun _ => none)))))), (o, .inl (cL, 1, .inr (.inl (fun _ => 0))))] s.heap.size = A at hD hEx ⊢
  have hA : ∀ q : Nat, s.heap.size ≤ q → A q := fun q h => by rw [← hAe]; exact Or.inr h
  have hS : va_S A s.heap s.heap [] := va_S.rf
  have hP : va_P D vwCl [((h 0), .inr (11, [.ref (h 1), .ref (h 9), .int 0, .int 0, .ref (h 20), .ref (h 37), .int 0, .ref (h 38), .ref (h 42), .ref (h 43), .ref (h 44), .ref (h 45), .ref (h 46), .ref (h 47), .ref (h 48)])), ((h 1), .inr (8, [.ref (h 2), .int 0, .ref (h 3), .ref (h 4), .int 0, .ref (h 5), .int 0, .ref (h 6), .int 0, .ref (h 7), .int 0])), ((h 3), .inl ((cs 9), 10, .inr (.inr (.inr (.inr (fun _ => none)))))), (o, .inl (cL, 1, .inr (.inl (fun _ => 0))))] s.heap := hP
  have hl := lv_entry ([.ref (h 0), .int p0, .int p1, .ref o]) (n := 5) (Nat.le_of_ble_eq_true rfl)
  rw [lg_entry_eq]
  generalize (lg_sl ([.ref (h 0), .int p0, .int p1, .ref o]) ++ List.replicate (5 - (lg_sl ([.ref (h 0), .int p0, .int p1, .ref o])).length) Slot.unset).toArray = ls at hl ⊢
  have hl : lv_has ls 5 [(0, .ref (h 0)), (1, .int p0), (2, .int p1), (3, .ref o)] := hl
  skip
  refine lv_aload_n hx hb dL_assume_0 rfl (lv_at hl 3 rfl) ?_
  refine lv_iconst (v := 0) hx hb dL_assume_1 (by decide) ?_
  refine lv_aload_n hx hb dL_assume_2 rfl (lv_at hl 0 rfl) ?_
  refine lv_iload_n hx hb dL_assume_3 rfl (lv_at hl 1 rfl) ?_
  refine lv_iload_n hx hb dL_assume_4 rfl (lv_at hl 2 rfl) ?_
  have hPc := hP.sub (ws' := [((h 0), .inr (11, [.ref (h 1), .ref (h 9), .int 0, .int 0, .ref (h 20), .ref (h 37), .int 0, .ref (h 38), .ref (h 42), .ref (h 43), .ref (h 44), .ref (h 45), .ref (h 46), .ref (h 47), .ref (h 48)])), ((h 1), .inr (8, [.ref (h 2), .int 0, .ref (h 3), .ref (h 4), .int 0, .ref (h 5), .int 0, .ref (h 6), .int 0, .ref (h 7), .int 0])), ((h 3), .inl ((cs 9), 10, .inr (.inr (.inr (.inr (fun _ => none))))))]) [0, 1, 2] rfl
  have hDc := hD.sub (ws' := [((h 0), .inr (11, [.ref (h 1), .ref (h 9), .int 0, .int 0, .ref (h 20), .ref (h 37), .int 0, .ref (h 38), .ref (h 42), .ref (h 43), .ref (h 44), .ref (h 45), .ref (h 46), .ref (h 47), .ref (h 48)])), ((h 1), .inr (8, [.ref (h 2), .int 0, .ref (h 3), .ref (h 4), .int 0, .ref (h 5), .int 0, .ref (h 6), .int 0, .ref (h 7), .int 0])), ((h 3), .inl ((cs 9), 10, .inr (.inr (.inr (.inr (fun _ => none))))))]) [0, 1, 2] (by decide) rfl
  have hKc := hK.sub (tys' := [((cs 9), .object RX9)]) [0] rfl
  have hFc := va_free (wc := [((h 0), .inr (11, [.ref (h 1), .ref (h 9), .int 0, .int 0, .ref (h 20), .ref (h 37), .int 0, .ref (h 38), .ref (h 42), .ref (h 43), .ref (h 44), .ref (h 45), .ref (h 46), .ref (h 47), .ref (h 48)])), ((h 1), .inr (8, [.ref (h 2), .int 0, .ref (h 3), .ref (h 4), .int 0, .ref (h 5), .int 0, .ref (h 6), .int 0, .ref (h 7), .int 0])), ((h 3), .inl ((cs 9), 10, .inr (.inr (.inr (.inr (fun _ => none))))))]) hD hS hA [0, 1, 2] rfl
  refine vx_calli (vx_runV (As := [.int p0, .int p1]) (rest := [.int 0, .ref o]) ⟨hx, hb, hml, hown, ht⟩ (k_X11_assume l hl0 _ D h cs p0 p1) (cwV 2 ht (zG_V zw_624 zw_625 zw_626 zw_404 zw_627) rfl rfl rfl (by decide +kernel) ⟨Nat.le_of_ble_eq_true rfl, Nat.le_of_ble_eq_true rfl⟩) (zW_V (va_recv hK hP (ci := 11) (q0 := 0) rfl rfl) hEx hS hFc hPc hKc hDc) rfl rfl hl.1 rfl (lv_room (Nat.le_of_ble_eq_true rfl)) dL_assume_5 ⟨Nat.le_of_ble_eq_true rfl, Nat.le_of_ble_eq_true rfl⟩) hS (fun q _ h => hFc q h) hFc (fun q _ h => hFc q h) (fun E ce q9 uu t H1 locs1 ht0 hvm hpx hB hz1 hk1 hS hcell hv hcl => ?_) (fun r_1 u_1 t H1 locs ht0 hvm hw_1 hB hz1 hk1 hS => ?_)
  · skip
    rcases hB with ⟨rfl, hb9⟩ | ⟨rfl, hb9⟩
    · skip
      obtain ⟨hP, hD⟩ := va_join (wr := [(o, .inl (cL, 1, .inr (.inl (fun _ => 0))))]) (w1 := []) hP hD [0, 1, 2] [3] rfl rfl (by decide) (by decide) hk1 hFc zP_nil zD_nil
      refine vx_catch (name := "java/lang/IndexOutOfBoundsException") hown [] ⟨0, 10, 13, 21⟩ [⟨0, 10, 17, 15⟩] hTab ((fun _ h => nomatch h)) (by decide) (by decide) (ht _ zw_597) (va_Nw.use rfl (hEx.1.2.2.2.1 "java/lang/IndexOutOfBoundsException" (by decide))) hcell hv hcl ?_
      generalize H1 = H at hP hS ⊢
      have hP : va_P D vwCl [(o, .inl (cL, 1, .inr (.inl (fun _ => 0))))] H := hP
      have hD : va_D A [(o, .inl (cL, 1, .inr (.inl (fun _ => 0))))] := hD
      refine W.widen (k := 3) (n := 18) (Nat.le_of_ble_eq_true rfl) (Nat.le_of_ble_eq_true rfl) ?_
      refine lv_astore (lv' := [(4, .ref q9), (0, .ref (h 0)), (1, .int p0), (2, .int p1), (3, .ref o)]) hx hb dL_assume_13 hl (by decide) rfl (fun ls hl => ?_)
      refine lv_iconst (v := 1) hx hb dL_assume_15 (by decide) ?_
      have hP9 := hP.sub (ws' := [(o, .inl (cL, 1, .inr (.inl (fun _ => 0))))]) [0] rfl
      have hD9 := hD.sub (ws' := [(o, .inl (cL, 1, .inr (.inl (fun _ => 0))))]) [0] (by decide) rfl
      have hK9 := hK.sub (tys' := []) [] rfl
      refine W.widen (k := 3) (n := 18) (Nat.le_of_ble_eq_true rfl) (Nat.le_of_ble_eq_true rfl) ?_
      exact W.iret (v := 1) hx hb hr (fun t ht0 hW => ⟨⟨1, 0, rfl, hb9, (fun _ => 0), rfl, zE_of hP9 hK9 hD9 ht0 hW⟩, hS.F ht0⟩) hS.2.2 dL_assume_16
    · skip
      obtain ⟨hP, hD⟩ := va_join (wr := [(o, .inl (cL, 1, .inr (.inl (fun _ => 0))))]) (w1 := []) hP hD [0, 1, 2] [3] rfl rfl (by decide) (by decide) hk1 hFc zP_nil zD_nil
      refine vx_catch (name := "java/lang/IllegalStateException") hown [⟨0, 10, 13, 21⟩] ⟨0, 10, 17, 15⟩ [] hTab (List.forall_mem_cons.mpr ⟨.inr ⟨by decide, "java/lang/IndexOutOfBoundsException", ht _ zw_597, hNc ("java/lang/IllegalStateException", "java/lang/IndexOutOfBoundsException") (by decide)⟩, (fun _ h => nomatch h)⟩) (by decide) (by decide) (ht _ zw_610) (va_Nw.use rfl (hEx.1.2.2.2.1 "java/lang/IllegalStateException" (by decide))) hcell hv hcl ?_
      generalize H1 = H at hP hS ⊢
      have hP : va_P D vwCl [(o, .inl (cL, 1, .inr (.inl (fun _ => 0))))] H := hP
      have hD : va_D A [(o, .inl (cL, 1, .inr (.inl (fun _ => 0))))] := hD
      refine W.widen (k := 3) (n := 18) (Nat.le_of_ble_eq_true rfl) (Nat.le_of_ble_eq_true rfl) ?_
      refine lv_astore (lv' := [(4, .ref q9), (0, .ref (h 0)), (1, .int p0), (2, .int p1), (3, .ref o)]) hx hb dL_assume_17 hl (by decide) rfl (fun ls hl => ?_)
      refine lv_iconst (v := 2) hx hb dL_assume_19 (by decide) ?_
      have hP9 := hP.sub (ws' := [(o, .inl (cL, 1, .inr (.inl (fun _ => 0))))]) [0] rfl
      have hD9 := hD.sub (ws' := [(o, .inl (cL, 1, .inr (.inl (fun _ => 0))))]) [0] (by decide) rfl
      have hK9 := hK.sub (tys' := []) [] rfl
      refine W.widen (k := 3) (n := 18) (Nat.le_of_ble_eq_true rfl) (Nat.le_of_ble_eq_true rfl) ?_
      exact W.iret (v := 2) hx hb hr (fun t ht0 hW => ⟨⟨2, 0, rfl, hb9, (fun _ => 0), rfl, zE_of hP9 hK9 hD9 ht0 hW⟩, hS.F ht0⟩) hS.2.2 dL_assume_20
  obtain ⟨hP1, hK1, hD1⟩ := hB
  rw [ht0] at hP1
  have hK1 := va_K.moved hvm.symm hK1
  obtain ⟨hP, hD⟩ := va_join (wr := [(o, .inl (cL, 1, .inr (.inl (fun _ => 0))))]) (w1 := []) hP hD [0, 1, 2] [3] rfl rfl (by decide) (by decide) hk1 hFc hP1 hD1
  generalize H1 = H at hP hS ⊢
  have hP : va_P D vwCl [(o, .inl (cL, 1, .inr (.inl (fun _ => 0))))] H := hP
  have hD : va_D A [(o, .inl (cL, 1, .inr (.inl (fun _ => 0))))] := hD
  refine W.widen (k := 3) (n := 18) (Nat.le_of_ble_eq_true rfl) (Nat.le_of_ble_eq_true rfl) ?_
  exfalso
  unfold zS_assume at hw_1
  rcases hw_1 with ⟨h9, -⟩ | ⟨h9, -⟩
  · exact absurd h9 (by decide)
  · exact absurd h9 (by decide)
set_option maxHeartbeats 4000000 in
set_option maxRecDepth 100000 in
theorem k_L_giveUp (l : Launch) (hl0 : l.stackTraces = false) (sz : Nat) (D : va_G) (h cs : Nat → Nat) (o : Nat) (cL : ClassId) : Met l yL_giveUp (.codeWith yL_giveUp cL_giveUp 3 (some .int) [(0, 8, 11, 41)] :: zT) ({ frames := 8, cells := 1, slots := 6, locals := 130 }) (va_Pc [.ref (h 0), .ref o] (zY D [((h 0), .inr (11, [.ref (h 1), .ref (h 9), .int 0, .int 0, .ref (h 20), .ref (h 37), .int 0, .ref (h 38), .ref (h 42), .ref (h 43), .ref (h 44), .ref (h 45), .ref (h 46), .ref (h 47), .ref (h 48)])), ((h 1), .inr (8, [.ref (h 2), .int 0, .ref (h 3), .ref (h 4), .int 0, .ref (h 5), .int 0, .ref (h 6), .int 0, .ref (h 7), .int 0])), (o, .inl (cL, 1, .inr (.inl (fun _ => 0))))] [(cL, .long)] sz)) (va_Qi (fun (r u : Int32) => zS_giveUp r u) (fun u t => ∃ g2 : Nat → Int64, g2 0 = u.toInt64 ∧ zE D [(o, .inl (cL, 1, .inr (.inl g2)))] [] (va_A [((h 0), .inr (11, [.ref (h 1), .ref (h 9), .int 0, .int 0, .ref (h 20), .ref (h 37), .int 0, .ref (h 38), .ref (h 42), .ref (h 43), .ref (h 44), .ref (h 45), .ref (h 46), .ref (h 47), .ref (h 48)])), ((h 1), .inr (8, [.ref (h 2), .int 0, .ref (h 3), .ref (h 4), .int 0, .ref (h 5), .int 0, .ref (h 6), .int 0, .ref (h 7), .int 0])), (o, .inl (cL, 1, .inr (.inl (fun _ => 0))))] sz) t) (va_A [((h 0), .inr (11, [.ref (h 1), .ref (h 9), .int 0, .int 0, .ref (h 20), .ref (h 37), .int 0, .ref (h 38), .ref (h 42), .ref (h 43), .ref (h 44), .ref (h 45), .ref (h 46), .ref (h 47), .ref (h 48)])), ((h 1), .inr (8, [.ref (h 2), .int 0, .ref (h 3), .ref (h 4), .int 0, .ref (h 5), .int 0, .ref (h 6), .int 0, .ref (h 7), .int 0])), (o, .inl (cL, 1, .inr (.inl (fun _ => 0))))] sz)) 1 6 (va_A [((h 0), .inr (11, [.ref (h 1), .ref (h 9), .int 0, .int 0, .ref (h 20), .ref (h 37), .int 0, .ref (h 38), .ref (h 42), .ref (h 43), .ref (h 44), .ref (h 45), .ref (h 46), .ref (h 47), .ref (h 48)])), ((h 1), .inr (8, [.ref (h 2), .int 0, .ref (h 3), .ref (h 4), .int 0, .ref (h 5), .int 0, .ref (h 6), .int 0, .ref (h 7), .int 0])), (o, .inl (cL, 1, .inr (.inl (fun _ => 0))))] sz) := by
  refine zOfWH (cc := cL_giveUp) (maxL := 3) (ret := (some .int)) (by decide) rfl ?_
  intro p e s m args below meth c s₁ B hml hv
  obtain ⟨rfl, hNc, hEx, hsz, hP, hK, hD0⟩ := hv
  have hx := B.exec
  have hb := B.bytes
  have hr := B.returns
  have hts := atoms_spec (ws := (.codeWith yL_giveUp cL_giveUp 3 (some .int) [(0, 8, 11, 41)] :: zT)) B.pre
  have ht : ∀ w ∈ zT, w.before _ s = true := fun w h => hts w (List.mem_cons_of_mem _ h)
  have hown : s.vm.findClass RL = some m.cls := findClass_of_methodNamed B.named
  have hlocks := B.notSynchronized
  have hTab := vx_table (x := yL_giveUp) B (hts _ List.mem_cons_self)
  subst hsz
  have hD := hD0.self (sz := s.heap.size)
  generalize hAe : va_A [((h 0), .inr (11, [.ref (h 1), .ref (h 9), .int 0, .int 0, .ref (h 20), .ref (h 37), .int 0, .ref (h 38), .ref (h 42), .ref (h 43), .ref (h 44), .ref (h 45), .ref (h 46), .ref (h 47), .ref (h 48)])), ((h 1), .inr (8, [.ref (h 2), .int 0, .ref (h 3), .ref (h 4), .int 0, .ref (h 5), .int 0, .ref (h 6), .int 0, .ref (h 7), .int 0])), (o, .inl (cL, 1, .inr (.inl (fun _ => 0))))] s.heap.size = A at hD hEx ⊢
  have hA : ∀ q : Nat, s.heap.size ≤ q → A q := fun q h => by rw [← hAe]; exact Or.inr h
  have hS : va_S A s.heap s.heap [] := va_S.rf
  have hP : va_P D vwCl [((h 0), .inr (11, [.ref (h 1), .ref (h 9), .int 0, .int 0, .ref (h 20), .ref (h 37), .int 0, .ref (h 38), .ref (h 42), .ref (h 43), .ref (h 44), .ref (h 45), .ref (h 46), .ref (h 47), .ref (h 48)])), ((h 1), .inr (8, [.ref (h 2), .int 0, .ref (h 3), .ref (h 4), .int 0, .ref (h 5), .int 0, .ref (h 6), .int 0, .ref (h 7), .int 0])), (o, .inl (cL, 1, .inr (.inl (fun _ => 0))))] s.heap := hP
  have hl := lv_entry ([.ref (h 0), .ref o]) (n := 3) (Nat.le_of_ble_eq_true rfl)
  rw [lg_entry_eq]
  generalize (lg_sl ([.ref (h 0), .ref o]) ++ List.replicate (3 - (lg_sl ([.ref (h 0), .ref o])).length) Slot.unset).toArray = ls at hl ⊢
  have hl : lv_has ls 3 [(0, .ref (h 0)), (1, .ref o)] := hl
  skip
  refine lv_aload_n hx hb dL_giveUp_0 rfl (lv_at hl 1 rfl) ?_
  refine lv_iconst (v := 0) hx hb dL_giveUp_1 (by decide) ?_
  refine lv_aload_n hx hb dL_giveUp_2 rfl (lv_at hl 0 rfl) ?_
  have hPc := hP.sub (ws' := [((h 0), .inr (11, [.ref (h 1), .ref (h 9), .int 0, .int 0, .ref (h 20), .ref (h 37), .int 0, .ref (h 38), .ref (h 42), .ref (h 43), .ref (h 44), .ref (h 45), .ref (h 46), .ref (h 47), .ref (h 48)])), ((h 1), .inr (8, [.ref (h 2), .int 0, .ref (h 3), .ref (h 4), .int 0, .ref (h 5), .int 0, .ref (h 6), .int 0, .ref (h 7), .int 0]))]) [0, 1] rfl
  have hDc := hD.sub (ws' := [((h 0), .inr (11, [.ref (h 1), .ref (h 9), .int 0, .int 0, .ref (h 20), .ref (h 37), .int 0, .ref (h 38), .ref (h 42), .ref (h 43), .ref (h 44), .ref (h 45), .ref (h 46), .ref (h 47), .ref (h 48)])), ((h 1), .inr (8, [.ref (h 2), .int 0, .ref (h 3), .ref (h 4), .int 0, .ref (h 5), .int 0, .ref (h 6), .int 0, .ref (h 7), .int 0]))]) [0, 1] (by decide) rfl
  have hKc := hK.sub (tys' := []) [] rfl
  have hFc := va_free (wc := [((h 0), .inr (11, [.ref (h 1), .ref (h 9), .int 0, .int 0, .ref (h 20), .ref (h 37), .int 0, .ref (h 38), .ref (h 42), .ref (h 43), .ref (h 44), .ref (h 45), .ref (h 46), .ref (h 47), .ref (h 48)])), ((h 1), .inr (8, [.ref (h 2), .int 0, .ref (h 3), .ref (h 4), .int 0, .ref (h 5), .int 0, .ref (h 6), .int 0, .ref (h 7), .int 0]))]) hD hS hA [0, 1] rfl
  refine vx_calli (vx_runV (As := []) (rest := [.int 0, .ref o]) ⟨hx, hb, hml, hown, ht⟩ (k_X11_giveUp l hl0 _ D h cs) (cwV 0 ht (zG_V zw_628 zw_629 zw_630 zw_404 zw_631) rfl rfl rfl (by decide +kernel) ⟨Nat.le_of_ble_eq_true rfl, Nat.le_of_ble_eq_true rfl⟩) (zW_V (va_recv hK hP (ci := 11) (q0 := 0) rfl rfl) hEx hS hFc hPc hKc hDc) rfl rfl hl.1 rfl (lv_room (Nat.le_of_ble_eq_true rfl)) dL_giveUp_3 ⟨Nat.le_of_ble_eq_true rfl, Nat.le_of_ble_eq_true rfl⟩) hS (fun q _ h => hFc q h) hFc (fun q _ h => hFc q h) (fun E ce q9 uu t H1 locs1 ht0 hvm hpx hB hz1 hk1 hS hcell hv hcl => ?_) (fun r_1 u_1 t H1 locs ht0 hvm hw_1 hB hz1 hk1 hS => ?_)
  · skip
    obtain ⟨rfl, hb9⟩ := hB
    obtain ⟨hP, hD⟩ := va_join (wr := [(o, .inl (cL, 1, .inr (.inl (fun _ => 0))))]) (w1 := []) hP hD [0, 1] [2] rfl rfl (by decide) (by decide) hk1 hFc zP_nil zD_nil
    refine vx_catch (name := "java/util/NoSuchElementException") hown [] ⟨0, 8, 11, 41⟩ [] hTab ((fun _ h => nomatch h)) (by decide) (by decide) (ht _ zw_619) (va_Nw.use rfl (hEx.1.2.2.2.1 "java/util/NoSuchElementException" (by decide))) hcell hv hcl ?_
    generalize H1 = H at hP hS ⊢
    have hP : va_P D vwCl [(o, .inl (cL, 1, .inr (.inl (fun _ => 0))))] H := hP
    have hD : va_D A [(o, .inl (cL, 1, .inr (.inl (fun _ => 0))))] := hD
    refine W.widen (k := 1) (n := 6) (Nat.le_of_ble_eq_true rfl) (Nat.le_of_ble_eq_true rfl) ?_
    refine lv_astore_n (lv' := [(2, .ref q9), (0, .ref (h 0)), (1, .ref o)]) hx hb dL_giveUp_11 rfl hl (by decide) rfl (fun ls hl => ?_)
    refine lv_iconst (v := 1) hx hb dL_giveUp_12 (by decide) ?_
    have hP9 := hP.sub (ws' := [(o, .inl (cL, 1, .inr (.inl (fun _ => 0))))]) [0] rfl
    have hD9 := hD.sub (ws' := [(o, .inl (cL, 1, .inr (.inl (fun _ => 0))))]) [0] (by decide) rfl
    have hK9 := hK.sub (tys' := []) [] rfl
    refine W.widen (k := 1) (n := 6) (Nat.le_of_ble_eq_true rfl) (Nat.le_of_ble_eq_true rfl) ?_
    exact W.iret (v := 1) hx hb hr (fun t ht0 hW => ⟨⟨1, 0, rfl, hb9, (fun _ => 0), rfl, zE_of hP9 hK9 hD9 ht0 hW⟩, hS.F ht0⟩) hS.2.2 dL_giveUp_13
  obtain ⟨hP1, hK1, hD1⟩ := hB
  rw [ht0] at hP1
  have hK1 := va_K.moved hvm.symm hK1
  obtain ⟨hP, hD⟩ := va_join (wr := [(o, .inl (cL, 1, .inr (.inl (fun _ => 0))))]) (w1 := []) hP hD [0, 1] [2] rfl rfl (by decide) (by decide) hk1 hFc hP1 hD1
  generalize H1 = H at hP hS ⊢
  have hP : va_P D vwCl [(o, .inl (cL, 1, .inr (.inl (fun _ => 0))))] H := hP
  have hD : va_D A [(o, .inl (cL, 1, .inr (.inl (fun _ => 0))))] := hD
  refine W.widen (k := 1) (n := 6) (Nat.le_of_ble_eq_true rfl) (Nat.le_of_ble_eq_true rfl) ?_
  exfalso
  unfold zS_giveUp at hw_1
  obtain ⟨h9, -⟩ := hw_1
  exact absurd h9 (by decide)
set_option maxHeartbeats 4000000 in
set_option maxRecDepth 100000 in
theorem k_L_end (l : Launch) (hl0 : l.stackTraces = false) (sz : Nat) (D : va_G) (h cs : Nat → Nat) (p0 p1 : Int32) (o : Nat) (cL : ClassId) : Met l yL_end (.codeWith yL_end cL_end 5 (some .int) [(0, 10, 13, 13), (0, 10, 17, 21), (0, 10, 21, 41), (0, 10, 25, 15)] :: zT) ({ frames := 8, cells := 3, slots := 18, locals := 135 }) (va_Pc [.ref (h 0), .int p0, .int p1, .ref o] (zY D [((h 0), .inr (11, [.ref (h 1), .ref (h 9), .int 0, .int 0, .ref (h 20), .ref (h 37), .int 0, .ref (h 38), .ref (h 42), .ref (h 43), .ref (h 44), .ref (h 45), .ref (h 46), .ref (h 47), .ref (h 48)])), ((h 1), .inr (8, [.ref (h 2), .int 0, .ref (h 3), .ref (h 4), .int 0, .ref (h 5), .int 0, .ref (h 6), .int 0, .ref (h 7), .int 0])), (o, .inl (cL, 1, .inr (.inl (fun _ => 0))))] [(cL, .long)] sz)) (va_Qi (fun (r u : Int32) => zS_end p0 p1 r u) (fun u t => ∃ g2 : Nat → Int64, g2 0 = u.toInt64 ∧ zE D [(o, .inl (cL, 1, .inr (.inl g2)))] [] (va_A [((h 0), .inr (11, [.ref (h 1), .ref (h 9), .int 0, .int 0, .ref (h 20), .ref (h 37), .int 0, .ref (h 38), .ref (h 42), .ref (h 43), .ref (h 44), .ref (h 45), .ref (h 46), .ref (h 47), .ref (h 48)])), ((h 1), .inr (8, [.ref (h 2), .int 0, .ref (h 3), .ref (h 4), .int 0, .ref (h 5), .int 0, .ref (h 6), .int 0, .ref (h 7), .int 0])), (o, .inl (cL, 1, .inr (.inl (fun _ => 0))))] sz) t) (va_A [((h 0), .inr (11, [.ref (h 1), .ref (h 9), .int 0, .int 0, .ref (h 20), .ref (h 37), .int 0, .ref (h 38), .ref (h 42), .ref (h 43), .ref (h 44), .ref (h 45), .ref (h 46), .ref (h 47), .ref (h 48)])), ((h 1), .inr (8, [.ref (h 2), .int 0, .ref (h 3), .ref (h 4), .int 0, .ref (h 5), .int 0, .ref (h 6), .int 0, .ref (h 7), .int 0])), (o, .inl (cL, 1, .inr (.inl (fun _ => 0))))] sz)) 3 18 (va_A [((h 0), .inr (11, [.ref (h 1), .ref (h 9), .int 0, .int 0, .ref (h 20), .ref (h 37), .int 0, .ref (h 38), .ref (h 42), .ref (h 43), .ref (h 44), .ref (h 45), .ref (h 46), .ref (h 47), .ref (h 48)])), ((h 1), .inr (8, [.ref (h 2), .int 0, .ref (h 3), .ref (h 4), .int 0, .ref (h 5), .int 0, .ref (h 6), .int 0, .ref (h 7), .int 0])), (o, .inl (cL, 1, .inr (.inl (fun _ => 0))))] sz) := by
  refine zOfWH (cc := cL_end) (maxL := 5) (ret := (some .int)) (by decide) rfl ?_
  intro p e s m args below meth c s₁ B hml hv
  obtain ⟨rfl, hNc, hEx, hsz, hP, hK, hD0⟩ := hv
  have hx := B.exec
  have hb := B.bytes
  have hr := B.returns
  have hts := atoms_spec (ws := (.codeWith yL_end cL_end 5 (some .int) [(0, 10, 13, 13), (0, 10, 17, 21), (0, 10, 21, 41), (0, 10, 25, 15)] :: zT)) B.pre
  have ht : ∀ w ∈ zT, w.before _ s = true := fun w h => hts w (List.mem_cons_of_mem _ h)
  have hown : s.vm.findClass RL = some m.cls := findClass_of_methodNamed B.named
  have hlocks := B.notSynchronized
  have hTab := vx_table (x := yL_end) B (hts _ List.mem_cons_self)
  subst hsz
  have hD := hD0.self (sz := s.heap.size)
  generalize hAe : va_A [((h 0), .inr (11, [.ref (h 1), .ref (h 9), .int 0, .int 0, .ref (h 20), .ref (h 37), .int 0, .ref (h 38), .ref (h 42), .ref (h 43), .ref (h 44), .ref (h 45), .ref (h 46), .ref (h 47), .ref (h 48)])), ((h 1), .inr (8, [.ref (h 2), .int 0, .ref (h 3), .ref (h 4), .int 0, .ref (h 5), .int 0, .ref (h 6), .int 0, .ref (h 7), .int 0])), (o, .inl (cL, 1, .inr (.inl (fun _ => 0))))] s.heap.size = A at hD hEx ⊢
  have hA : ∀ q : Nat, s.heap.size ≤ q → A q := fun q h => by rw [← hAe]; exact Or.inr h
  have hS : va_S A s.heap s.heap [] := va_S.rf
  have hP : va_P D vwCl [((h 0), .inr (11, [.ref (h 1), .ref (h 9), .int 0, .int 0, .ref (h 20), .ref (h 37), .int 0, .ref (h 38), .ref (h 42), .ref (h 43), .ref (h 44), .ref (h 45), .ref (h 46), .ref (h 47), .ref (h 48)])), ((h 1), .inr (8, [.ref (h 2), .int 0, .ref (h 3), .ref (h 4), .int 0, .ref (h 5), .int 0, .ref (h 6), .int 0, .ref (h 7), .int 0])), (o, .inl (cL, 1, .inr (.inl (fun _ => 0))))] s.heap := hP
  have hl := lv_entry ([.ref (h 0), .int p0, .int p1, .ref o]) (n := 5) (Nat.le_of_ble_eq_true rfl)
  rw [lg_entry_eq]
  generalize (lg_sl ([.ref (h 0), .int p0, .int p1, .ref o]) ++ List.replicate (5 - (lg_sl ([.ref (h 0), .int p0, .int p1, .ref o])).length) Slot.unset).toArray = ls at hl ⊢
  have hl : lv_has ls 5 [(0, .ref (h 0)), (1, .int p0), (2, .int p1), (3, .ref o)] := hl
  skip
  refine lv_aload_n hx hb dL_end_0 rfl (lv_at hl 3 rfl) ?_
  refine lv_iconst (v := 0) hx hb dL_end_1 (by decide) ?_
  refine lv_aload_n hx hb dL_end_2 rfl (lv_at hl 0 rfl) ?_
  refine lv_iload_n hx hb dL_end_3 rfl (lv_at hl 1 rfl) ?_
  refine lv_iload_n hx hb dL_end_4 rfl (lv_at hl 2 rfl) ?_
  have hPc := hP.sub (ws' := [((h 0), .inr (11, [.ref (h 1), .ref (h 9), .int 0, .int 0, .ref (h 20), .ref (h 37), .int 0, .ref (h 38), .ref (h 42), .ref (h 43), .ref (h 44), .ref (h 45), .ref (h 46), .ref (h 47), .ref (h 48)])), ((h 1), .inr (8, [.ref (h 2), .int 0, .ref (h 3), .ref (h 4), .int 0, .ref (h 5), .int 0, .ref (h 6), .int 0, .ref (h 7), .int 0]))]) [0, 1] rfl
  have hDc := hD.sub (ws' := [((h 0), .inr (11, [.ref (h 1), .ref (h 9), .int 0, .int 0, .ref (h 20), .ref (h 37), .int 0, .ref (h 38), .ref (h 42), .ref (h 43), .ref (h 44), .ref (h 45), .ref (h 46), .ref (h 47), .ref (h 48)])), ((h 1), .inr (8, [.ref (h 2), .int 0, .ref (h 3), .ref (h 4), .int 0, .ref (h 5), .int 0, .ref (h 6), .int 0, .ref (h 7), .int 0]))]) [0, 1] (by decide) rfl
  have hKc := hK.sub (tys' := []) [] rfl
  have hFc := va_free (wc := [((h 0), .inr (11, [.ref (h 1), .ref (h 9), .int 0, .int 0, .ref (h 20), .ref (h 37), .int 0, .ref (h 38), .ref (h 42), .ref (h 43), .ref (h 44), .ref (h 45), .ref (h 46), .ref (h 47), .ref (h 48)])), ((h 1), .inr (8, [.ref (h 2), .int 0, .ref (h 3), .ref (h 4), .int 0, .ref (h 5), .int 0, .ref (h 6), .int 0, .ref (h 7), .int 0]))]) hD hS hA [0, 1] rfl
  refine vx_calli (vx_runV (As := [.int p0, .int p1]) (rest := [.int 0, .ref o]) ⟨hx, hb, hml, hown, ht⟩ (k_X11_end l hl0 _ D h cs p0 p1) (cwV 2 ht (zG_V zw_632 zw_633 zw_634 zw_404 zw_635) rfl rfl rfl (by decide +kernel) ⟨Nat.le_of_ble_eq_true rfl, Nat.le_of_ble_eq_true rfl⟩) (zW_V (va_recv hK hP (ci := 11) (q0 := 0) rfl rfl) hEx hS hFc hPc hKc hDc) rfl rfl hl.1 rfl (lv_room (Nat.le_of_ble_eq_true rfl)) dL_end_5 ⟨Nat.le_of_ble_eq_true rfl, Nat.le_of_ble_eq_true rfl⟩) hS (fun q _ h => hFc q h) hFc (fun q _ h => hFc q h) (fun E ce q9 uu t H1 locs1 ht0 hvm hpx hB hz1 hk1 hS hcell hv hcl => ?_) (fun r_1 u_1 t H1 locs ht0 hvm hw_1 hB hz1 hk1 hS => ?_)
  · skip
    rcases hB with ⟨rfl, hb9⟩ | ⟨rfl, hb9⟩ | ⟨rfl, hb9⟩
    · skip
      obtain ⟨hP, hD⟩ := va_join (wr := [(o, .inl (cL, 1, .inr (.inl (fun _ => 0))))]) (w1 := []) hP hD [0, 1] [2] rfl rfl (by decide) (by decide) hk1 hFc zP_nil zD_nil
      refine vx_catch (name := "java/lang/IllegalArgumentException") hown [] ⟨0, 10, 13, 13⟩ [⟨0, 10, 17, 21⟩, ⟨0, 10, 21, 41⟩, ⟨0, 10, 25, 15⟩] hTab ((fun _ h => nomatch h)) (by decide) (by decide) (ht _ zw_592) (va_Nw.use rfl (hEx.1.2.2.2.1 "java/lang/IllegalArgumentException" (by decide))) hcell hv hcl ?_
      generalize H1 = H at hP hS ⊢
      have hP : va_P D vwCl [(o, .inl (cL, 1, .inr (.inl (fun _ => 0))))] H := hP
      have hD : va_D A [(o, .inl (cL, 1, .inr (.inl (fun _ => 0))))] := hD
      refine W.widen (k := 3) (n := 18) (Nat.le_of_ble_eq_true rfl) (Nat.le_of_ble_eq_true rfl) ?_
      refine lv_astore (lv' := [(4, .ref q9), (0, .ref (h 0)), (1, .int p0), (2, .int p1), (3, .ref o)]) hx hb dL_end_13 hl (by decide) rfl (fun ls hl => ?_)
      refine lv_iconst (v := 1) hx hb dL_end_15 (by decide) ?_
      have hP9 := hP.sub (ws' := [(o, .inl (cL, 1, .inr (.inl (fun _ => 0))))]) [0] rfl
      have hD9 := hD.sub (ws' := [(o, .inl (cL, 1, .inr (.inl (fun _ => 0))))]) [0] (by decide) rfl
      have hK9 := hK.sub (tys' := []) [] rfl
      refine W.widen (k := 3) (n := 18) (Nat.le_of_ble_eq_true rfl) (Nat.le_of_ble_eq_true rfl) ?_
      exact W.iret (v := 1) hx hb hr (fun t ht0 hW => ⟨⟨1, 0, rfl, hb9, (fun _ => 0), rfl, zE_of hP9 hK9 hD9 ht0 hW⟩, hS.F ht0⟩) hS.2.2 dL_end_16
    · skip
      obtain ⟨hP, hD⟩ := va_join (wr := [(o, .inl (cL, 1, .inr (.inl (fun _ => 0))))]) (w1 := []) hP hD [0, 1] [2] rfl rfl (by decide) (by decide) hk1 hFc zP_nil zD_nil
      refine vx_catch (name := "java/lang/IndexOutOfBoundsException") hown [⟨0, 10, 13, 13⟩] ⟨0, 10, 17, 21⟩ [⟨0, 10, 21, 41⟩, ⟨0, 10, 25, 15⟩] hTab (List.forall_mem_cons.mpr ⟨.inr ⟨by decide, "java/lang/IllegalArgumentException", ht _ zw_592, hNc ("java/lang/IndexOutOfBoundsException", "java/lang/IllegalArgumentException") (by decide)⟩, (fun _ h => nomatch h)⟩) (by decide) (by decide) (ht _ zw_597) (va_Nw.use rfl (hEx.1.2.2.2.1 "java/lang/IndexOutOfBoundsException" (by decide))) hcell hv hcl ?_
      generalize H1 = H at hP hS ⊢
      have hP : va_P D vwCl [(o, .inl (cL, 1, .inr (.inl (fun _ => 0))))] H := hP
      have hD : va_D A [(o, .inl (cL, 1, .inr (.inl (fun _ => 0))))] := hD
      refine W.widen (k := 3) (n := 18) (Nat.le_of_ble_eq_true rfl) (Nat.le_of_ble_eq_true rfl) ?_
      refine lv_astore (lv' := [(4, .ref q9), (0, .ref (h 0)), (1, .int p0), (2, .int p1), (3, .ref o)]) hx hb dL_end_17 hl (by decide) rfl (fun ls hl => ?_)
      refine lv_iconst (v := 2) hx hb dL_end_19 (by decide) ?_
      have hP9 := hP.sub (ws' := [(o, .inl (cL, 1, .inr (.inl (fun _ => 0))))]) [0] rfl
      have hD9 := hD.sub (ws' := [(o, .inl (cL, 1, .inr (.inl (fun _ => 0))))]) [0] (by decide) rfl
      have hK9 := hK.sub (tys' := []) [] rfl
      refine W.widen (k := 3) (n := 18) (Nat.le_of_ble_eq_true rfl) (Nat.le_of_ble_eq_true rfl) ?_
      exact W.iret (v := 2) hx hb hr (fun t ht0 hW => ⟨⟨2, 0, rfl, hb9, (fun _ => 0), rfl, zE_of hP9 hK9 hD9 ht0 hW⟩, hS.F ht0⟩) hS.2.2 dL_end_20
    · skip
      obtain ⟨hP, hD⟩ := va_join (wr := [(o, .inl (cL, 1, .inr (.inl (fun _ => 0))))]) (w1 := []) hP hD [0, 1] [2] rfl rfl (by decide) (by decide) hk1 hFc zP_nil zD_nil
      refine vx_catch (name := "java/util/NoSuchElementException") hown [⟨0, 10, 13, 13⟩, ⟨0, 10, 17, 21⟩] ⟨0, 10, 21, 41⟩ [⟨0, 10, 25, 15⟩] hTab (List.forall_mem_cons.mpr ⟨.inr ⟨by decide, "java/lang/IllegalArgumentException", ht _ zw_592, hNc ("java/util/NoSuchElementException", "java/lang/IllegalArgumentException") (by decide)⟩, List.forall_mem_cons.mpr ⟨.inr ⟨by decide, "java/lang/IndexOutOfBoundsException", ht _ zw_597, hNc ("java/util/NoSuchElementException", "java/lang/IndexOutOfBoundsException") (by decide)⟩, (fun _ h => nomatch h)⟩⟩) (by decide) (by decide) (ht _ zw_619) (va_Nw.use rfl (hEx.1.2.2.2.1 "java/util/NoSuchElementException" (by decide))) hcell hv hcl ?_
      generalize H1 = H at hP hS ⊢
      have hP : va_P D vwCl [(o, .inl (cL, 1, .inr (.inl (fun _ => 0))))] H := hP
      have hD : va_D A [(o, .inl (cL, 1, .inr (.inl (fun _ => 0))))] := hD
      refine W.widen (k := 3) (n := 18) (Nat.le_of_ble_eq_true rfl) (Nat.le_of_ble_eq_true rfl) ?_
      refine lv_astore (lv' := [(4, .ref q9), (0, .ref (h 0)), (1, .int p0), (2, .int p1), (3, .ref o)]) hx hb dL_end_21 hl (by decide) rfl (fun ls hl => ?_)
      refine lv_iconst (v := 3) hx hb dL_end_23 (by decide) ?_
      have hP9 := hP.sub (ws' := [(o, .inl (cL, 1, .inr (.inl (fun _ => 0))))]) [0] rfl
      have hD9 := hD.sub (ws' := [(o, .inl (cL, 1, .inr (.inl (fun _ => 0))))]) [0] (by decide) rfl
      have hK9 := hK.sub (tys' := []) [] rfl
      refine W.widen (k := 3) (n := 18) (Nat.le_of_ble_eq_true rfl) (Nat.le_of_ble_eq_true rfl) ?_
      exact W.iret (v := 3) hx hb hr (fun t ht0 hW => ⟨⟨3, 0, rfl, hb9, (fun _ => 0), rfl, zE_of hP9 hK9 hD9 ht0 hW⟩, hS.F ht0⟩) hS.2.2 dL_end_24
  obtain ⟨hP1, hK1, hD1⟩ := hB
  rw [ht0] at hP1
  have hK1 := va_K.moved hvm.symm hK1
  obtain ⟨hP, hD⟩ := va_join (wr := [(o, .inl (cL, 1, .inr (.inl (fun _ => 0))))]) (w1 := []) hP hD [0, 1] [2] rfl rfl (by decide) (by decide) hk1 hFc hP1 hD1
  generalize H1 = H at hP hS ⊢
  have hP : va_P D vwCl [(o, .inl (cL, 1, .inr (.inl (fun _ => 0))))] H := hP
  have hD : va_D A [(o, .inl (cL, 1, .inr (.inl (fun _ => 0))))] := hD
  refine W.widen (k := 3) (n := 18) (Nat.le_of_ble_eq_true rfl) (Nat.le_of_ble_eq_true rfl) ?_
  exfalso
  unfold zS_end at hw_1
  rcases hw_1 with ⟨h9, -⟩ | ⟨h9, -⟩ | ⟨h9, -⟩
  · exact absurd h9 (by decide)
  · exact absurd h9 (by decide)
  · exact absurd h9 (by decide)
set_option maxHeartbeats 4000000 in
set_option maxRecDepth 100000 in
theorem k_L_lemma (l : Launch) (hl0 : l.stackTraces = false) (sz : Nat) (D : va_G) (h cs : Nat → Nat) (p0 p1 : Int32) (fn : Nat → Option Nat) (hn : ∀ k : Nat, k < 4 → fn k = some (h 8)) (o : Nat) (cL : ClassId) : Met l yL_lemma (.codeWith yL_lemma cL_lemma 5 (some .int) [(0, 10, 13, 13), (0, 10, 17, 21), (0, 10, 21, 15)] :: zT) ({ frames := 8, cells := 3, slots := 18, locals := 136 }) (va_Pc [.ref (h 0), .int p0, .int p1, .ref o] (zY D [((h 0), .inr (11, [.ref (h 1), .ref (h 9), .int 0, .int 0, .ref (h 20), .ref (h 37), .int 0, .ref (h 38), .ref (h 42), .ref (h 43), .ref (h 44), .ref (h 45), .ref (h 46), .ref (h 47), .ref (h 48)])), ((h 1), .inr (8, [.ref (h 2), .int 0, .ref (h 3), .ref (h 4), .int 0, .ref (h 5), .int 0, .ref (h 6), .int 0, .ref (h 7), .int 0])), ((h 7), .inl ((cs 0), 4, .inr (.inr (.inr (.inr fn))))), ((h 8), .inr (0, [.ref (h 102), .ref (h 103), .int 0])), ((h 46), .inr (1, [.ref (h 84), .ref (h 85), .ref (h 86), .ref (h 87), .int 0, .int 0, .int (-1), .int 0, .int (-1), .int (-1), .int 0])), (o, .inl (cL, 1, .inr (.inl (fun _ => 0))))] [((cs 0), .object RX0), (cL, .long)] sz)) (va_Qi (fun (r u : Int32) => zS_lemma p0 p1 r u) (fun u t => ∃ g2 : Nat → Int64, g2 0 = u.toInt64 ∧ zE D [(o, .inl (cL, 1, .inr (.inl g2)))] [] (va_A [((h 0), .inr (11, [.ref (h 1), .ref (h 9), .int 0, .int 0, .ref (h 20), .ref (h 37), .int 0, .ref (h 38), .ref (h 42), .ref (h 43), .ref (h 44), .ref (h 45), .ref (h 46), .ref (h 47), .ref (h 48)])), ((h 1), .inr (8, [.ref (h 2), .int 0, .ref (h 3), .ref (h 4), .int 0, .ref (h 5), .int 0, .ref (h 6), .int 0, .ref (h 7), .int 0])), ((h 7), .inl ((cs 0), 4, .inr (.inr (.inr (.inr fn))))), ((h 8), .inr (0, [.ref (h 102), .ref (h 103), .int 0])), ((h 46), .inr (1, [.ref (h 84), .ref (h 85), .ref (h 86), .ref (h 87), .int 0, .int 0, .int (-1), .int 0, .int (-1), .int (-1), .int 0])), (o, .inl (cL, 1, .inr (.inl (fun _ => 0))))] sz) t) (va_A [((h 0), .inr (11, [.ref (h 1), .ref (h 9), .int 0, .int 0, .ref (h 20), .ref (h 37), .int 0, .ref (h 38), .ref (h 42), .ref (h 43), .ref (h 44), .ref (h 45), .ref (h 46), .ref (h 47), .ref (h 48)])), ((h 1), .inr (8, [.ref (h 2), .int 0, .ref (h 3), .ref (h 4), .int 0, .ref (h 5), .int 0, .ref (h 6), .int 0, .ref (h 7), .int 0])), ((h 7), .inl ((cs 0), 4, .inr (.inr (.inr (.inr fn))))), ((h 8), .inr (0, [.ref (h 102), .ref (h 103), .int 0])), ((h 46), .inr (1, [.ref (h 84), .ref (h 85), .ref (h 86), .ref (h 87), .int 0, .int 0, .int (-1), .int 0, .int (-1), .int (-1), .int 0])), (o, .inl (cL, 1, .inr (.inl (fun _ => 0))))] sz)) 3 18 (va_A [((h 0), .inr (11, [.ref (h 1), .ref (h 9), .int 0, .int 0, .ref (h 20), .ref (h 37), .int 0, .ref (h 38), .ref (h 42), .ref (h 43), .ref (h 44), .ref (h 45), .ref (h 46), .ref (h 47), .ref (h 48)])), ((h 1), .inr (8, [.ref (h 2), .int 0, .ref (h 3), .ref (h 4), .int 0, .ref (h 5), .int 0, .ref (h 6), .int 0, .ref (h 7), .int 0])), ((h 7), .inl ((cs 0), 4, .inr (.inr (.inr (.inr fn))))), ((h 8), .inr (0, [.ref (h 102), .ref (h 103), .int 0])), ((h 46), .inr (1, [.ref (h 84), .ref (h 85), .ref (h 86), .ref (h 87), .int 0, .int 0, .int (-1), .int 0, .int (-1), .int (-1), .int 0])), (o, .inl (cL, 1, .inr (.inl (fun _ => 0))))] sz) := by
  refine zOfWH (cc := cL_lemma) (maxL := 5) (ret := (some .int)) (by decide) rfl ?_
  intro p e s m args below meth c s₁ B hml hv
  obtain ⟨rfl, hNc, hEx, hsz, hP, hK, hD0⟩ := hv
  have hx := B.exec
  have hb := B.bytes
  have hr := B.returns
  have hts := atoms_spec (ws := (.codeWith yL_lemma cL_lemma 5 (some .int) [(0, 10, 13, 13), (0, 10, 17, 21), (0, 10, 21, 15)] :: zT)) B.pre
  have ht : ∀ w ∈ zT, w.before _ s = true := fun w h => hts w (List.mem_cons_of_mem _ h)
  have hown : s.vm.findClass RL = some m.cls := findClass_of_methodNamed B.named
  have hlocks := B.notSynchronized
  have hTab := vx_table (x := yL_lemma) B (hts _ List.mem_cons_self)
  subst hsz
  have hD := hD0.self (sz := s.heap.size)
  generalize hAe : va_A [((h 0), .inr (11, [.ref (h 1), .ref (h 9), .int 0, .int 0, .ref (h 20), .ref (h 37), .int 0, .ref (h 38), .ref (h 42), .ref (h 43), .ref (h 44), .ref (h 45), .ref (h 46), .ref (h 47), .ref (h 48)])), ((h 1), .inr (8, [.ref (h 2), .int 0, .ref (h 3), .ref (h 4), .int 0, .ref (h 5), .int 0, .ref (h 6), .int 0, .ref (h 7), .int 0])), ((h 7), .inl ((cs 0), 4, .inr (.inr (.inr (.inr fn))))), ((h 8), .inr (0, [.ref (h 102), .ref (h 103), .int 0])), ((h 46), .inr (1, [.ref (h 84), .ref (h 85), .ref (h 86), .ref (h 87), .int 0, .int 0, .int (-1), .int 0, .int (-1), .int (-1), .int 0])), (o, .inl (cL, 1, .inr (.inl (fun _ => 0))))] s.heap.size = A at hD hEx ⊢
  have hA : ∀ q : Nat, s.heap.size ≤ q → A q := fun q h => by rw [← hAe]; exact Or.inr h
  have hS : va_S A s.heap s.heap [] := va_S.rf
  have hP : va_P D vwCl [((h 0), .inr (11, [.ref (h 1), .ref (h 9), .int 0, .int 0, .ref (h 20), .ref (h 37), .int 0, .ref (h 38), .ref (h 42), .ref (h 43), .ref (h 44), .ref (h 45), .ref (h 46), .ref (h 47), .ref (h 48)])), ((h 1), .inr (8, [.ref (h 2), .int 0, .ref (h 3), .ref (h 4), .int 0, .ref (h 5), .int 0, .ref (h 6), .int 0, .ref (h 7), .int 0])), ((h 7), .inl ((cs 0), 4, .inr (.inr (.inr (.inr fn))))), ((h 8), .inr (0, [.ref (h 102), .ref (h 103), .int 0])), ((h 46), .inr (1, [.ref (h 84), .ref (h 85), .ref (h 86), .ref (h 87), .int 0, .int 0, .int (-1), .int 0, .int (-1), .int (-1), .int 0])), (o, .inl (cL, 1, .inr (.inl (fun _ => 0))))] s.heap := hP
  have hl := lv_entry ([.ref (h 0), .int p0, .int p1, .ref o]) (n := 5) (Nat.le_of_ble_eq_true rfl)
  rw [lg_entry_eq]
  generalize (lg_sl ([.ref (h 0), .int p0, .int p1, .ref o]) ++ List.replicate (5 - (lg_sl ([.ref (h 0), .int p0, .int p1, .ref o])).length) Slot.unset).toArray = ls at hl ⊢
  have hl : lv_has ls 5 [(0, .ref (h 0)), (1, .int p0), (2, .int p1), (3, .ref o)] := hl
  skip
  refine lv_aload_n hx hb dL_lemma_0 rfl (lv_at hl 3 rfl) ?_
  refine lv_iconst (v := 0) hx hb dL_lemma_1 (by decide) ?_
  refine lv_aload_n hx hb dL_lemma_2 rfl (lv_at hl 0 rfl) ?_
  refine lv_iload_n hx hb dL_lemma_3 rfl (lv_at hl 1 rfl) ?_
  refine lv_iload_n hx hb dL_lemma_4 rfl (lv_at hl 2 rfl) ?_
  have hPc := hP.sub (ws' := [((h 0), .inr (11, [.ref (h 1), .ref (h 9), .int 0, .int 0, .ref (h 20), .ref (h 37), .int 0, .ref (h 38), .ref (h 42), .ref (h 43), .ref (h 44), .ref (h 45), .ref (h 46), .ref (h 47), .ref (h 48)])), ((h 1), .inr (8, [.ref (h 2), .int 0, .ref (h 3), .ref (h 4), .int 0, .ref (h 5), .int 0, .ref (h 6), .int 0, .ref (h 7), .int 0])), ((h 7), .inl ((cs 0), 4, .inr (.inr (.inr (.inr fn))))), ((h 8), .inr (0, [.ref (h 102), .ref (h 103), .int 0])), ((h 46), .inr (1, [.ref (h 84), .ref (h 85), .ref (h 86), .ref (h 87), .int 0, .int 0, .int (-1), .int 0, .int (-1), .int (-1), .int 0]))]) [0, 1, 2, 3, 4] rfl
  have hDc := hD.sub (ws' := [((h 0), .inr (11, [.ref (h 1), .ref (h 9), .int 0, .int 0, .ref (h 20), .ref (h 37), .int 0, .ref (h 38), .ref (h 42), .ref (h 43), .ref (h 44), .ref (h 45), .ref (h 46), .ref (h 47), .ref (h 48)])), ((h 1), .inr (8, [.ref (h 2), .int 0, .ref (h 3), .ref (h 4), .int 0, .ref (h 5), .int 0, .ref (h 6), .int 0, .ref (h 7), .int 0])), ((h 7), .inl ((cs 0), 4, .inr (.inr (.inr (.inr fn))))), ((h 8), .inr (0, [.ref (h 102), .ref (h 103), .int 0])), ((h 46), .inr (1, [.ref (h 84), .ref (h 85), .ref (h 86), .ref (h 87), .int 0, .int 0, .int (-1), .int 0, .int (-1), .int (-1), .int 0]))]) [0, 1, 2, 3, 4] (by decide) rfl
  have hKc := hK.sub (tys' := [((cs 0), .object RX0)]) [0] rfl
  have hFc := va_free (wc := [((h 0), .inr (11, [.ref (h 1), .ref (h 9), .int 0, .int 0, .ref (h 20), .ref (h 37), .int 0, .ref (h 38), .ref (h 42), .ref (h 43), .ref (h 44), .ref (h 45), .ref (h 46), .ref (h 47), .ref (h 48)])), ((h 1), .inr (8, [.ref (h 2), .int 0, .ref (h 3), .ref (h 4), .int 0, .ref (h 5), .int 0, .ref (h 6), .int 0, .ref (h 7), .int 0])), ((h 7), .inl ((cs 0), 4, .inr (.inr (.inr (.inr fn))))), ((h 8), .inr (0, [.ref (h 102), .ref (h 103), .int 0])), ((h 46), .inr (1, [.ref (h 84), .ref (h 85), .ref (h 86), .ref (h 87), .int 0, .int 0, .int (-1), .int 0, .int (-1), .int (-1), .int 0]))]) hD hS hA [0, 1, 2, 3, 4] rfl
  refine vx_calli (vx_runV (As := [.int p0, .int p1]) (rest := [.int 0, .ref o]) ⟨hx, hb, hml, hown, ht⟩ (k_X11_lemma l hl0 _ D h cs p0 p1 fn hn) (cwV 2 ht (zG_V zw_636 zw_637 zw_638 zw_404 zw_639) rfl rfl rfl (by decide +kernel) ⟨Nat.le_of_ble_eq_true rfl, Nat.le_of_ble_eq_true rfl⟩) (zW_V (va_recv hK hP (ci := 11) (q0 := 0) rfl rfl) hEx hS hFc hPc hKc hDc) rfl rfl hl.1 rfl (lv_room (Nat.le_of_ble_eq_true rfl)) dL_lemma_5 ⟨Nat.le_of_ble_eq_true rfl, Nat.le_of_ble_eq_true rfl⟩) hS (fun q _ h => hFc q h) hFc (fun q _ h => hFc q h) (fun E ce q9 uu t H1 locs1 ht0 hvm hpx hB hz1 hk1 hS hcell hv hcl => ?_) (fun r_1 u_1 t H1 locs ht0 hvm hw_1 hB hz1 hk1 hS => ?_)
  · skip
    rcases hB with ⟨rfl, hb9⟩ | ⟨rfl, hb9⟩ | ⟨rfl, hb9⟩
    · skip
      obtain ⟨hP, hD⟩ := va_join (wr := [(o, .inl (cL, 1, .inr (.inl (fun _ => 0))))]) (w1 := []) hP hD [0, 1, 2, 3, 4] [5] rfl rfl (by decide) (by decide) hk1 hFc zP_nil zD_nil
      refine vx_catch (name := "java/lang/IllegalArgumentException") hown [] ⟨0, 10, 13, 13⟩ [⟨0, 10, 17, 21⟩, ⟨0, 10, 21, 15⟩] hTab ((fun _ h => nomatch h)) (by decide) (by decide) (ht _ zw_592) (va_Nw.use rfl (hEx.1.2.2.2.1 "java/lang/IllegalArgumentException" (by decide))) hcell hv hcl ?_
      generalize H1 = H at hP hS ⊢
      have hP : va_P D vwCl [(o, .inl (cL, 1, .inr (.inl (fun _ => 0))))] H := hP
      have hD : va_D A [(o, .inl (cL, 1, .inr (.inl (fun _ => 0))))] := hD
      refine W.widen (k := 3) (n := 18) (Nat.le_of_ble_eq_true rfl) (Nat.le_of_ble_eq_true rfl) ?_
      refine lv_astore (lv' := [(4, .ref q9), (0, .ref (h 0)), (1, .int p0), (2, .int p1), (3, .ref o)]) hx hb dL_lemma_13 hl (by decide) rfl (fun ls hl => ?_)
      refine lv_iconst (v := 1) hx hb dL_lemma_15 (by decide) ?_
      have hP9 := hP.sub (ws' := [(o, .inl (cL, 1, .inr (.inl (fun _ => 0))))]) [0] rfl
      have hD9 := hD.sub (ws' := [(o, .inl (cL, 1, .inr (.inl (fun _ => 0))))]) [0] (by decide) rfl
      have hK9 := hK.sub (tys' := []) [] rfl
      refine W.widen (k := 3) (n := 18) (Nat.le_of_ble_eq_true rfl) (Nat.le_of_ble_eq_true rfl) ?_
      exact W.iret (v := 1) hx hb hr (fun t ht0 hW => ⟨⟨1, 0, rfl, hb9, (fun _ => 0), rfl, zE_of hP9 hK9 hD9 ht0 hW⟩, hS.F ht0⟩) hS.2.2 dL_lemma_16
    · skip
      obtain ⟨hP, hD⟩ := va_join (wr := [(o, .inl (cL, 1, .inr (.inl (fun _ => 0))))]) (w1 := []) hP hD [0, 1, 2, 3, 4] [5] rfl rfl (by decide) (by decide) hk1 hFc zP_nil zD_nil
      refine vx_catch (name := "java/lang/IndexOutOfBoundsException") hown [⟨0, 10, 13, 13⟩] ⟨0, 10, 17, 21⟩ [⟨0, 10, 21, 15⟩] hTab (List.forall_mem_cons.mpr ⟨.inr ⟨by decide, "java/lang/IllegalArgumentException", ht _ zw_592, hNc ("java/lang/IndexOutOfBoundsException", "java/lang/IllegalArgumentException") (by decide)⟩, (fun _ h => nomatch h)⟩) (by decide) (by decide) (ht _ zw_597) (va_Nw.use rfl (hEx.1.2.2.2.1 "java/lang/IndexOutOfBoundsException" (by decide))) hcell hv hcl ?_
      generalize H1 = H at hP hS ⊢
      have hP : va_P D vwCl [(o, .inl (cL, 1, .inr (.inl (fun _ => 0))))] H := hP
      have hD : va_D A [(o, .inl (cL, 1, .inr (.inl (fun _ => 0))))] := hD
      refine W.widen (k := 3) (n := 18) (Nat.le_of_ble_eq_true rfl) (Nat.le_of_ble_eq_true rfl) ?_
      refine lv_astore (lv' := [(4, .ref q9), (0, .ref (h 0)), (1, .int p0), (2, .int p1), (3, .ref o)]) hx hb dL_lemma_17 hl (by decide) rfl (fun ls hl => ?_)
      refine lv_iconst (v := 2) hx hb dL_lemma_19 (by decide) ?_
      have hP9 := hP.sub (ws' := [(o, .inl (cL, 1, .inr (.inl (fun _ => 0))))]) [0] rfl
      have hD9 := hD.sub (ws' := [(o, .inl (cL, 1, .inr (.inl (fun _ => 0))))]) [0] (by decide) rfl
      have hK9 := hK.sub (tys' := []) [] rfl
      refine W.widen (k := 3) (n := 18) (Nat.le_of_ble_eq_true rfl) (Nat.le_of_ble_eq_true rfl) ?_
      exact W.iret (v := 2) hx hb hr (fun t ht0 hW => ⟨⟨2, 0, rfl, hb9, (fun _ => 0), rfl, zE_of hP9 hK9 hD9 ht0 hW⟩, hS.F ht0⟩) hS.2.2 dL_lemma_20
    · skip
      obtain ⟨hP, hD⟩ := va_join (wr := [(o, .inl (cL, 1, .inr (.inl (fun _ => 0))))]) (w1 := []) hP hD [0, 1, 2, 3, 4] [5] rfl rfl (by decide) (by decide) hk1 hFc zP_nil zD_nil
      refine vx_catch (name := "java/lang/IllegalStateException") hown [⟨0, 10, 13, 13⟩, ⟨0, 10, 17, 21⟩] ⟨0, 10, 21, 15⟩ [] hTab (List.forall_mem_cons.mpr ⟨.inr ⟨by decide, "java/lang/IllegalArgumentException", ht _ zw_592, hNc ("java/lang/IllegalStateException", "java/lang/IllegalArgumentException") (by decide)⟩, List.forall_mem_cons.mpr ⟨.inr ⟨by decide, "java/lang/IndexOutOfBoundsException", ht _ zw_597, hNc ("java/lang/IllegalStateException", "java/lang/IndexOutOfBoundsException") (by decide)⟩, (fun _ h => nomatch h)⟩⟩) (by decide) (by decide) (ht _ zw_610) (va_Nw.use rfl (hEx.1.2.2.2.1 "java/lang/IllegalStateException" (by decide))) hcell hv hcl ?_
      generalize H1 = H at hP hS ⊢
      have hP : va_P D vwCl [(o, .inl (cL, 1, .inr (.inl (fun _ => 0))))] H := hP
      have hD : va_D A [(o, .inl (cL, 1, .inr (.inl (fun _ => 0))))] := hD
      refine W.widen (k := 3) (n := 18) (Nat.le_of_ble_eq_true rfl) (Nat.le_of_ble_eq_true rfl) ?_
      refine lv_astore (lv' := [(4, .ref q9), (0, .ref (h 0)), (1, .int p0), (2, .int p1), (3, .ref o)]) hx hb dL_lemma_21 hl (by decide) rfl (fun ls hl => ?_)
      refine lv_iconst (v := 3) hx hb dL_lemma_23 (by decide) ?_
      have hP9 := hP.sub (ws' := [(o, .inl (cL, 1, .inr (.inl (fun _ => 0))))]) [0] rfl
      have hD9 := hD.sub (ws' := [(o, .inl (cL, 1, .inr (.inl (fun _ => 0))))]) [0] (by decide) rfl
      have hK9 := hK.sub (tys' := []) [] rfl
      refine W.widen (k := 3) (n := 18) (Nat.le_of_ble_eq_true rfl) (Nat.le_of_ble_eq_true rfl) ?_
      exact W.iret (v := 3) hx hb hr (fun t ht0 hW => ⟨⟨3, 0, rfl, hb9, (fun _ => 0), rfl, zE_of hP9 hK9 hD9 ht0 hW⟩, hS.F ht0⟩) hS.2.2 dL_lemma_24
  obtain ⟨hP1, hK1, hD1⟩ := hB
  rw [ht0] at hP1
  have hK1 := va_K.moved hvm.symm hK1
  obtain ⟨hP, hD⟩ := va_join (wr := [(o, .inl (cL, 1, .inr (.inl (fun _ => 0))))]) (w1 := []) hP hD [0, 1, 2, 3, 4] [5] rfl rfl (by decide) (by decide) hk1 hFc hP1 hD1
  generalize H1 = H at hP hS ⊢
  have hP : va_P D vwCl [(o, .inl (cL, 1, .inr (.inl (fun _ => 0))))] H := hP
  have hD : va_D A [(o, .inl (cL, 1, .inr (.inl (fun _ => 0))))] := hD
  refine W.widen (k := 3) (n := 18) (Nat.le_of_ble_eq_true rfl) (Nat.le_of_ble_eq_true rfl) ?_
  exfalso
  unfold zS_lemma at hw_1
  rcases hw_1 with ⟨h9, -⟩ | ⟨h9, -⟩ | ⟨h9, -⟩
  · exact absurd h9 (by decide)
  · exact absurd h9 (by decide)
  · exact absurd h9 (by decide)
set_option maxHeartbeats 4000000 in
set_option maxRecDepth 100000 in
theorem k_L_cases (l : Launch) (hl0 : l.stackTraces = false) (sz : Nat) (D : va_G) (h cs : Nat → Nat) (p0 p1 p2 : Int32) (o : Nat) (cL : ClassId) : Met l yL_cases (.codeWith yL_cases cL_cases 6 (some .int) [(0, 12, 15, 13), (0, 12, 19, 41), (0, 12, 23, 15)] :: zT) ({ frames := 8, cells := 2, slots := 12, locals := 139 }) (va_Pc [.ref (h 0), .int p0, .int p1, .int p2, .ref o] (zY D [((h 0), .inr (11, [.ref (h 1), .ref (h 9), .int 0, .int 0, .ref (h 20), .ref (h 37), .int 0, .ref (h 38), .ref (h 42), .ref (h 43), .ref (h 44), .ref (h 45), .ref (h 46), .ref (h 47), .ref (h 48)])), ((h 1), .inr (8, [.ref (h 2), .int 0, .ref (h 3), .ref (h 4), .int 0, .ref (h 5), .int 0, .ref (h 6), .int 0, .ref (h 7), .int 0])), ((h 4), .inl ((cs 4), 100, .inr (.inr (.inr (.inr (fun _ => none)))))), (o, .inl (cL, 1, .inr (.inl (fun _ => 0))))] [((cs 4), .object RX4), (cL, .long)] sz)) (va_Qi (fun (r u : Int32) => zS_cases p0 p1 p2 r u) (fun u t => ∃ g2 : Nat → Int64, g2 0 = u.toInt64 ∧ zE D [(o, .inl (cL, 1, .inr (.inl g2)))] [] (va_A [((h 0), .inr (11, [.ref (h 1), .ref (h 9), .int 0, .int 0, .ref (h 20), .ref (h 37), .int 0, .ref (h 38), .ref (h 42), .ref (h 43), .ref (h 44), .ref (h 45), .ref (h 46), .ref (h 47), .ref (h 48)])), ((h 1), .inr (8, [.ref (h 2), .int 0, .ref (h 3), .ref (h 4), .int 0, .ref (h 5), .int 0, .ref (h 6), .int 0, .ref (h 7), .int 0])), ((h 4), .inl ((cs 4), 100, .inr (.inr (.inr (.inr (fun _ => none)))))), (o, .inl (cL, 1, .inr (.inl (fun _ => 0))))] sz) t) (va_A [((h 0), .inr (11, [.ref (h 1), .ref (h 9), .int 0, .int 0, .ref (h 20), .ref (h 37), .int 0, .ref (h 38), .ref (h 42), .ref (h 43), .ref (h 44), .ref (h 45), .ref (h 46), .ref (h 47), .ref (h 48)])), ((h 1), .inr (8, [.ref (h 2), .int 0, .ref (h 3), .ref (h 4), .int 0, .ref (h 5), .int 0, .ref (h 6), .int 0, .ref (h 7), .int 0])), ((h 4), .inl ((cs 4), 100, .inr (.inr (.inr (.inr (fun _ => none)))))), (o, .inl (cL, 1, .inr (.inl (fun _ => 0))))] sz)) 2 12 (va_A [((h 0), .inr (11, [.ref (h 1), .ref (h 9), .int 0, .int 0, .ref (h 20), .ref (h 37), .int 0, .ref (h 38), .ref (h 42), .ref (h 43), .ref (h 44), .ref (h 45), .ref (h 46), .ref (h 47), .ref (h 48)])), ((h 1), .inr (8, [.ref (h 2), .int 0, .ref (h 3), .ref (h 4), .int 0, .ref (h 5), .int 0, .ref (h 6), .int 0, .ref (h 7), .int 0])), ((h 4), .inl ((cs 4), 100, .inr (.inr (.inr (.inr (fun _ => none)))))), (o, .inl (cL, 1, .inr (.inl (fun _ => 0))))] sz) := by
  refine zOfWH (cc := cL_cases) (maxL := 6) (ret := (some .int)) (by decide) rfl ?_
  intro p e s m args below meth c s₁ B hml hv
  obtain ⟨rfl, hNc, hEx, hsz, hP, hK, hD0⟩ := hv
  have hx := B.exec
  have hb := B.bytes
  have hr := B.returns
  have hts := atoms_spec (ws := (.codeWith yL_cases cL_cases 6 (some .int) [(0, 12, 15, 13), (0, 12, 19, 41), (0, 12, 23, 15)] :: zT)) B.pre
  have ht : ∀ w ∈ zT, w.before _ s = true := fun w h => hts w (List.mem_cons_of_mem _ h)
  have hown : s.vm.findClass RL = some m.cls := findClass_of_methodNamed B.named
  have hlocks := B.notSynchronized
  have hTab := vx_table (x := yL_cases) B (hts _ List.mem_cons_self)
  subst hsz
  have hD := hD0.self (sz := s.heap.size)
  generalize hAe : va_A [((h 0), .inr (11, [.ref (h 1), .ref (h 9), .int 0, .int 0, .ref (h 20), .ref (h 37), .int 0, .ref (h 38), .ref (h 42), .ref (h 43), .ref (h 44), .ref (h 45), .ref (h 46), .ref (h 47), .ref (h 48)])), ((h 1), .inr (8, [.ref (h 2), .int 0, .ref (h 3), .ref (h 4), .int 0, .ref (h 5), .int 0, .ref (h 6), .int 0, .ref (h 7), .int 0])), ((h 4), .inl ((cs 4), 100, .inr (.inr (.inr (.inr (fun _ => none)))))), (o, .inl (cL, 1, .inr (.inl (fun _ => 0))))] s.heap.size = A at hD hEx ⊢
  have hA : ∀ q : Nat, s.heap.size ≤ q → A q := fun q h => by rw [← hAe]; exact Or.inr h
  have hS : va_S A s.heap s.heap [] := va_S.rf
  have hP : va_P D vwCl [((h 0), .inr (11, [.ref (h 1), .ref (h 9), .int 0, .int 0, .ref (h 20), .ref (h 37), .int 0, .ref (h 38), .ref (h 42), .ref (h 43), .ref (h 44), .ref (h 45), .ref (h 46), .ref (h 47), .ref (h 48)])), ((h 1), .inr (8, [.ref (h 2), .int 0, .ref (h 3), .ref (h 4), .int 0, .ref (h 5), .int 0, .ref (h 6), .int 0, .ref (h 7), .int 0])), ((h 4), .inl ((cs 4), 100, .inr (.inr (.inr (.inr (fun _ => none)))))), (o, .inl (cL, 1, .inr (.inl (fun _ => 0))))] s.heap := hP
  have hl := lv_entry ([.ref (h 0), .int p0, .int p1, .int p2, .ref o]) (n := 6) (Nat.le_of_ble_eq_true rfl)
  rw [lg_entry_eq]
  generalize (lg_sl ([.ref (h 0), .int p0, .int p1, .int p2, .ref o]) ++ List.replicate (6 - (lg_sl ([.ref (h 0), .int p0, .int p1, .int p2, .ref o])).length) Slot.unset).toArray = ls at hl ⊢
  have hl : lv_has ls 6 [(0, .ref (h 0)), (1, .int p0), (2, .int p1), (3, .int p2), (4, .ref o)] := hl
  skip
  refine lv_aload hx hb dL_cases_0 (lv_at hl 4 rfl) ?_
  refine lv_iconst (v := 0) hx hb dL_cases_2 (by decide) ?_
  refine lv_aload_n hx hb dL_cases_3 rfl (lv_at hl 0 rfl) ?_
  refine lv_iload_n hx hb dL_cases_4 rfl (lv_at hl 1 rfl) ?_
  refine lv_iload_n hx hb dL_cases_5 rfl (lv_at hl 2 rfl) ?_
  refine lv_iload_n hx hb dL_cases_6 rfl (lv_at hl 3 rfl) ?_
  have hPc := hP.sub (ws' := [((h 0), .inr (11, [.ref (h 1), .ref (h 9), .int 0, .int 0, .ref (h 20), .ref (h 37), .int 0, .ref (h 38), .ref (h 42), .ref (h 43), .ref (h 44), .ref (h 45), .ref (h 46), .ref (h 47), .ref (h 48)])), ((h 1), .inr (8, [.ref (h 2), .int 0, .ref (h 3), .ref (h 4), .int 0, .ref (h 5), .int 0, .ref (h 6), .int 0, .ref (h 7), .int 0])), ((h 4), .inl ((cs 4), 100, .inr (.inr (.inr (.inr (fun _ => none))))))]) [0, 1, 2] rfl
  have hDc := hD.sub (ws' := [((h 0), .inr (11, [.ref (h 1), .ref (h 9), .int 0, .int 0, .ref (h 20), .ref (h 37), .int 0, .ref (h 38), .ref (h 42), .ref (h 43), .ref (h 44), .ref (h 45), .ref (h 46), .ref (h 47), .ref (h 48)])), ((h 1), .inr (8, [.ref (h 2), .int 0, .ref (h 3), .ref (h 4), .int 0, .ref (h 5), .int 0, .ref (h 6), .int 0, .ref (h 7), .int 0])), ((h 4), .inl ((cs 4), 100, .inr (.inr (.inr (.inr (fun _ => none))))))]) [0, 1, 2] (by decide) rfl
  have hKc := hK.sub (tys' := [((cs 4), .object RX4)]) [0] rfl
  have hFc := va_free (wc := [((h 0), .inr (11, [.ref (h 1), .ref (h 9), .int 0, .int 0, .ref (h 20), .ref (h 37), .int 0, .ref (h 38), .ref (h 42), .ref (h 43), .ref (h 44), .ref (h 45), .ref (h 46), .ref (h 47), .ref (h 48)])), ((h 1), .inr (8, [.ref (h 2), .int 0, .ref (h 3), .ref (h 4), .int 0, .ref (h 5), .int 0, .ref (h 6), .int 0, .ref (h 7), .int 0])), ((h 4), .inl ((cs 4), 100, .inr (.inr (.inr (.inr (fun _ => none))))))]) hD hS hA [0, 1, 2] rfl
  refine vx_calli (vx_runV (As := [.int p0, .int p1, .int p2]) (rest := [.int 0, .ref o]) ⟨hx, hb, hml, hown, ht⟩ (k_X11_cases l hl0 _ D h cs p0 p1 p2) (cwV 3 ht (zG_V zw_640 zw_641 zw_642 zw_404 zw_643) rfl rfl rfl (by decide +kernel) ⟨Nat.le_of_ble_eq_true rfl, Nat.le_of_ble_eq_true rfl⟩) (zW_V (va_recv hK hP (ci := 11) (q0 := 0) rfl rfl) hEx hS hFc hPc hKc hDc) rfl rfl hl.1 rfl (lv_room (Nat.le_of_ble_eq_true rfl)) dL_cases_7 ⟨Nat.le_of_ble_eq_true rfl, Nat.le_of_ble_eq_true rfl⟩) hS (fun q _ h => hFc q h) hFc (fun q _ h => hFc q h) (fun E ce q9 uu t H1 locs1 ht0 hvm hpx hB hz1 hk1 hS hcell hv hcl => ?_) (fun r_1 u_1 t H1 locs ht0 hvm hw_1 hB hz1 hk1 hS => ?_)
  · skip
    rcases hB with ⟨rfl, hb9⟩ | ⟨rfl, hb9⟩
    · skip
      obtain ⟨hP, hD⟩ := va_join (wr := [(o, .inl (cL, 1, .inr (.inl (fun _ => 0))))]) (w1 := []) hP hD [0, 1, 2] [3] rfl rfl (by decide) (by decide) hk1 hFc zP_nil zD_nil
      refine vx_catch (name := "java/lang/IllegalArgumentException") hown [] ⟨0, 12, 15, 13⟩ [⟨0, 12, 19, 41⟩, ⟨0, 12, 23, 15⟩] hTab ((fun _ h => nomatch h)) (by decide) (by decide) (ht _ zw_592) (va_Nw.use rfl (hEx.1.2.2.2.1 "java/lang/IllegalArgumentException" (by decide))) hcell hv hcl ?_
      generalize H1 = H at hP hS ⊢
      have hP : va_P D vwCl [(o, .inl (cL, 1, .inr (.inl (fun _ => 0))))] H := hP
      have hD : va_D A [(o, .inl (cL, 1, .inr (.inl (fun _ => 0))))] := hD
      refine W.widen (k := 2) (n := 12) (Nat.le_of_ble_eq_true rfl) (Nat.le_of_ble_eq_true rfl) ?_
      refine lv_astore (lv' := [(5, .ref q9), (0, .ref (h 0)), (1, .int p0), (2, .int p1), (3, .int p2), (4, .ref o)]) hx hb dL_cases_15 hl (by decide) rfl (fun ls hl => ?_)
      refine lv_iconst (v := 1) hx hb dL_cases_17 (by decide) ?_
      have hP9 := hP.sub (ws' := [(o, .inl (cL, 1, .inr (.inl (fun _ => 0))))]) [0] rfl
      have hD9 := hD.sub (ws' := [(o, .inl (cL, 1, .inr (.inl (fun _ => 0))))]) [0] (by decide) rfl
      have hK9 := hK.sub (tys' := []) [] rfl
      refine W.widen (k := 2) (n := 12) (Nat.le_of_ble_eq_true rfl) (Nat.le_of_ble_eq_true rfl) ?_
      exact W.iret (v := 1) hx hb hr (fun t ht0 hW => ⟨⟨1, 0, rfl, hb9, (fun _ => 0), rfl, zE_of hP9 hK9 hD9 ht0 hW⟩, hS.F ht0⟩) hS.2.2 dL_cases_18
    · skip
      obtain ⟨hP, hD⟩ := va_join (wr := [(o, .inl (cL, 1, .inr (.inl (fun _ => 0))))]) (w1 := []) hP hD [0, 1, 2] [3] rfl rfl (by decide) (by decide) hk1 hFc zP_nil zD_nil
      refine vx_catch (name := "java/util/NoSuchElementException") hown [⟨0, 12, 15, 13⟩] ⟨0, 12, 19, 41⟩ [⟨0, 12, 23, 15⟩] hTab (List.forall_mem_cons.mpr ⟨.inr ⟨by decide, "java/lang/IllegalArgumentException", ht _ zw_592, hNc ("java/util/NoSuchElementException", "java/lang/IllegalArgumentException") (by decide)⟩, (fun _ h => nomatch h)⟩) (by decide) (by decide) (ht _ zw_619) (va_Nw.use rfl (hEx.1.2.2.2.1 "java/util/NoSuchElementException" (by decide))) hcell hv hcl ?_
      generalize H1 = H at hP hS ⊢
      have hP : va_P D vwCl [(o, .inl (cL, 1, .inr (.inl (fun _ => 0))))] H := hP
      have hD : va_D A [(o, .inl (cL, 1, .inr (.inl (fun _ => 0))))] := hD
      refine W.widen (k := 2) (n := 12) (Nat.le_of_ble_eq_true rfl) (Nat.le_of_ble_eq_true rfl) ?_
      refine lv_astore (lv' := [(5, .ref q9), (0, .ref (h 0)), (1, .int p0), (2, .int p1), (3, .int p2), (4, .ref o)]) hx hb dL_cases_19 hl (by decide) rfl (fun ls hl => ?_)
      refine lv_iconst (v := 2) hx hb dL_cases_21 (by decide) ?_
      have hP9 := hP.sub (ws' := [(o, .inl (cL, 1, .inr (.inl (fun _ => 0))))]) [0] rfl
      have hD9 := hD.sub (ws' := [(o, .inl (cL, 1, .inr (.inl (fun _ => 0))))]) [0] (by decide) rfl
      have hK9 := hK.sub (tys' := []) [] rfl
      refine W.widen (k := 2) (n := 12) (Nat.le_of_ble_eq_true rfl) (Nat.le_of_ble_eq_true rfl) ?_
      exact W.iret (v := 2) hx hb hr (fun t ht0 hW => ⟨⟨2, 0, rfl, hb9, (fun _ => 0), rfl, zE_of hP9 hK9 hD9 ht0 hW⟩, hS.F ht0⟩) hS.2.2 dL_cases_22
  obtain ⟨hP1, hK1, hD1⟩ := hB
  rw [ht0] at hP1
  have hK1 := va_K.moved hvm.symm hK1
  obtain ⟨hP, hD⟩ := va_join (wr := [(o, .inl (cL, 1, .inr (.inl (fun _ => 0))))]) (w1 := []) hP hD [0, 1, 2] [3] rfl rfl (by decide) (by decide) hk1 hFc hP1 hD1
  generalize H1 = H at hP hS ⊢
  have hP : va_P D vwCl [(o, .inl (cL, 1, .inr (.inl (fun _ => 0))))] H := hP
  have hD : va_D A [(o, .inl (cL, 1, .inr (.inl (fun _ => 0))))] := hD
  refine W.widen (k := 2) (n := 12) (Nat.le_of_ble_eq_true rfl) (Nat.le_of_ble_eq_true rfl) ?_
  exfalso
  unfold zS_cases at hw_1
  rcases hw_1 with ⟨h9, -⟩ | ⟨h9, -⟩
  · exact absurd h9 (by decide)
  · exact absurd h9 (by decide)
set_option maxHeartbeats 4000000 in
set_option maxRecDepth 100000 in
theorem k_L_across (l : Launch) (hl0 : l.stackTraces = false) (sz : Nat) (D : va_G) (h cs : Nat → Nat) (p0 p1 p2 p3 : Int32) (o : Nat) (cL : ClassId) : Met l yL_across (.codeWith yL_across cL_across 7 (some .int) [(0, 14, 17, 13), (0, 14, 21, 41), (0, 14, 25, 15)] :: zT) ({ frames := 8, cells := 2, slots := 12, locals := 142 }) (va_Pc [.ref (h 0), .int p0, .int p1, .int p2, .int p3, .ref o] (zY D [((h 0), .inr (11, [.ref (h 1), .ref (h 9), .int 0, .int 0, .ref (h 20), .ref (h 37), .int 0, .ref (h 38), .ref (h 42), .ref (h 43), .ref (h 44), .ref (h 45), .ref (h 46), .ref (h 47), .ref (h 48)])), ((h 1), .inr (8, [.ref (h 2), .int 0, .ref (h 3), .ref (h 4), .int 0, .ref (h 5), .int 0, .ref (h 6), .int 0, .ref (h 7), .int 0])), ((h 4), .inl ((cs 4), 100, .inr (.inr (.inr (.inr (fun _ => none)))))), (o, .inl (cL, 1, .inr (.inl (fun _ => 0))))] [((cs 4), .object RX4), (cL, .long)] sz)) (va_Qi (fun (r u : Int32) => zS_across p0 p1 p2 p3 r u) (fun u t => ∃ g2 : Nat → Int64, g2 0 = u.toInt64 ∧ zE D [(o, .inl (cL, 1, .inr (.inl g2)))] [] (va_A [((h 0), .inr (11, [.ref (h 1), .ref (h 9), .int 0, .int 0, .ref (h 20), .ref (h 37), .int 0, .ref (h 38), .ref (h 42), .ref (h 43), .ref (h 44), .ref (h 45), .ref (h 46), .ref (h 47), .ref (h 48)])), ((h 1), .inr (8, [.ref (h 2), .int 0, .ref (h 3), .ref (h 4), .int 0, .ref (h 5), .int 0, .ref (h 6), .int 0, .ref (h 7), .int 0])), ((h 4), .inl ((cs 4), 100, .inr (.inr (.inr (.inr (fun _ => none)))))), (o, .inl (cL, 1, .inr (.inl (fun _ => 0))))] sz) t) (va_A [((h 0), .inr (11, [.ref (h 1), .ref (h 9), .int 0, .int 0, .ref (h 20), .ref (h 37), .int 0, .ref (h 38), .ref (h 42), .ref (h 43), .ref (h 44), .ref (h 45), .ref (h 46), .ref (h 47), .ref (h 48)])), ((h 1), .inr (8, [.ref (h 2), .int 0, .ref (h 3), .ref (h 4), .int 0, .ref (h 5), .int 0, .ref (h 6), .int 0, .ref (h 7), .int 0])), ((h 4), .inl ((cs 4), 100, .inr (.inr (.inr (.inr (fun _ => none)))))), (o, .inl (cL, 1, .inr (.inl (fun _ => 0))))] sz)) 2 12 (va_A [((h 0), .inr (11, [.ref (h 1), .ref (h 9), .int 0, .int 0, .ref (h 20), .ref (h 37), .int 0, .ref (h 38), .ref (h 42), .ref (h 43), .ref (h 44), .ref (h 45), .ref (h 46), .ref (h 47), .ref (h 48)])), ((h 1), .inr (8, [.ref (h 2), .int 0, .ref (h 3), .ref (h 4), .int 0, .ref (h 5), .int 0, .ref (h 6), .int 0, .ref (h 7), .int 0])), ((h 4), .inl ((cs 4), 100, .inr (.inr (.inr (.inr (fun _ => none)))))), (o, .inl (cL, 1, .inr (.inl (fun _ => 0))))] sz) := by
  refine zOfWH (cc := cL_across) (maxL := 7) (ret := (some .int)) (by decide) rfl ?_
  intro p e s m args below meth c s₁ B hml hv
  obtain ⟨rfl, hNc, hEx, hsz, hP, hK, hD0⟩ := hv
  have hx := B.exec
  have hb := B.bytes
  have hr := B.returns
  have hts := atoms_spec (ws := (.codeWith yL_across cL_across 7 (some .int) [(0, 14, 17, 13), (0, 14, 21, 41), (0, 14, 25, 15)] :: zT)) B.pre
  have ht : ∀ w ∈ zT, w.before _ s = true := fun w h => hts w (List.mem_cons_of_mem _ h)
  have hown : s.vm.findClass RL = some m.cls := findClass_of_methodNamed B.named
  have hlocks := B.notSynchronized
  have hTab := vx_table (x := yL_across) B (hts _ List.mem_cons_self)
  subst hsz
  have hD := hD0.self (sz := s.heap.size)
  generalize hAe : va_A [((h 0), .inr (11, [.ref (h 1), .ref (h 9), .int 0, .int 0, .ref (h 20), .ref (h 37), .int 0, .ref (h 38), .ref (h 42), .ref (h 43), .ref (h 44), .ref (h 45), .ref (h 46), .ref (h 47), .ref (h 48)])), ((h 1), .inr (8, [.ref (h 2), .int 0, .ref (h 3), .ref (h 4), .int 0, .ref (h 5), .int 0, .ref (h 6), .int 0, .ref (h 7), .int 0])), ((h 4), .inl ((cs 4), 100, .inr (.inr (.inr (.inr (fun _ => none)))))), (o, .inl (cL, 1, .inr (.inl (fun _ => 0))))] s.heap.size = A at hD hEx ⊢
  have hA : ∀ q : Nat, s.heap.size ≤ q → A q := fun q h => by rw [← hAe]; exact Or.inr h
  have hS : va_S A s.heap s.heap [] := va_S.rf
  have hP : va_P D vwCl [((h 0), .inr (11, [.ref (h 1), .ref (h 9), .int 0, .int 0, .ref (h 20), .ref (h 37), .int 0, .ref (h 38), .ref (h 42), .ref (h 43), .ref (h 44), .ref (h 45), .ref (h 46), .ref (h 47), .ref (h 48)])), ((h 1), .inr (8, [.ref (h 2), .int 0, .ref (h 3), .ref (h 4), .int 0, .ref (h 5), .int 0, .ref (h 6), .int 0, .ref (h 7), .int 0])), ((h 4), .inl ((cs 4), 100, .inr (.inr (.inr (.inr (fun _ => none)))))), (o, .inl (cL, 1, .inr (.inl (fun _ => 0))))] s.heap := hP
  have hl := lv_entry ([.ref (h 0), .int p0, .int p1, .int p2, .int p3, .ref o]) (n := 7) (Nat.le_of_ble_eq_true rfl)
  rw [lg_entry_eq]
  generalize (lg_sl ([.ref (h 0), .int p0, .int p1, .int p2, .int p3, .ref o]) ++ List.replicate (7 - (lg_sl ([.ref (h 0), .int p0, .int p1, .int p2, .int p3, .ref o])).length) Slot.unset).toArray = ls at hl ⊢
  have hl : lv_has ls 7 [(0, .ref (h 0)), (1, .int p0), (2, .int p1), (3, .int p2), (4, .int p3), (5, .ref o)] := hl
  skip
  refine lv_aload hx hb dL_across_0 (lv_at hl 5 rfl) ?_
  refine lv_iconst (v := 0) hx hb dL_across_2 (by decide) ?_
  refine lv_aload_n hx hb dL_across_3 rfl (lv_at hl 0 rfl) ?_
  refine lv_iload_n hx hb dL_across_4 rfl (lv_at hl 1 rfl) ?_
  refine lv_iload_n hx hb dL_across_5 rfl (lv_at hl 2 rfl) ?_
  refine lv_iload_n hx hb dL_across_6 rfl (lv_at hl 3 rfl) ?_
  refine lv_iload hx hb dL_across_7 (lv_at hl 4 rfl) ?_
  have hPc := hP.sub (ws' := [((h 0), .inr (11, [.ref (h 1), .ref (h 9), .int 0, .int 0, .ref (h 20), .ref (h 37), .int 0, .ref (h 38), .ref (h 42), .ref (h 43), .ref (h 44), .ref (h 45), .ref (h 46), .ref (h 47), .ref (h 48)])), ((h 1), .inr (8, [.ref (h 2), .int 0, .ref (h 3), .ref (h 4), .int 0, .ref (h 5), .int 0, .ref (h 6), .int 0, .ref (h 7), .int 0])), ((h 4), .inl ((cs 4), 100, .inr (.inr (.inr (.inr (fun _ => none))))))]) [0, 1, 2] rfl
  have hDc := hD.sub (ws' := [((h 0), .inr (11, [.ref (h 1), .ref (h 9), .int 0, .int 0, .ref (h 20), .ref (h 37), .int 0, .ref (h 38), .ref (h 42), .ref (h 43), .ref (h 44), .ref (h 45), .ref (h 46), .ref (h 47), .ref (h 48)])), ((h 1), .inr (8, [.ref (h 2), .int 0, .ref (h 3), .ref (h 4), .int 0, .ref (h 5), .int 0, .ref (h 6), .int 0, .ref (h 7), .int 0])), ((h 4), .inl ((cs 4), 100, .inr (.inr (.inr (.inr (fun _ => none))))))]) [0, 1, 2] (by decide) rfl
  have hKc := hK.sub (tys' := [((cs 4), .object RX4)]) [0] rfl
  have hFc := va_free (wc := [((h 0), .inr (11, [.ref (h 1), .ref (h 9), .int 0, .int 0, .ref (h 20), .ref (h 37), .int 0, .ref (h 38), .ref (h 42), .ref (h 43), .ref (h 44), .ref (h 45), .ref (h 46), .ref (h 47), .ref (h 48)])), ((h 1), .inr (8, [.ref (h 2), .int 0, .ref (h 3), .ref (h 4), .int 0, .ref (h 5), .int 0, .ref (h 6), .int 0, .ref (h 7), .int 0])), ((h 4), .inl ((cs 4), 100, .inr (.inr (.inr (.inr (fun _ => none))))))]) hD hS hA [0, 1, 2] rfl
  refine vx_calli (vx_runV (As := [.int p0, .int p1, .int p2, .int p3]) (rest := [.int 0, .ref o]) ⟨hx, hb, hml, hown, ht⟩ (k_X11_across l hl0 _ D h cs p0 p1 p2 p3) (cwV 4 ht (zG_V zw_644 zw_645 zw_646 zw_404 zw_647) rfl rfl rfl (by decide +kernel) ⟨Nat.le_of_ble_eq_true rfl, Nat.le_of_ble_eq_true rfl⟩) (zW_V (va_recv hK hP (ci := 11) (q0 := 0) rfl rfl) hEx hS hFc hPc hKc hDc) rfl rfl hl.1 rfl (lv_room (Nat.le_of_ble_eq_true rfl)) dL_across_9 ⟨Nat.le_of_ble_eq_true rfl, Nat.le_of_ble_eq_true rfl⟩) hS (fun q _ h => hFc q h) hFc (fun q _ h => hFc q h) (fun E ce q9 uu t H1 locs1 ht0 hvm hpx hB hz1 hk1 hS hcell hv hcl => ?_) (fun r_1 u_1 t H1 locs ht0 hvm hw_1 hB hz1 hk1 hS => ?_)
  · skip
    rcases hB with ⟨rfl, hb9⟩ | ⟨rfl, hb9⟩
    · skip
      obtain ⟨hP, hD⟩ := va_join (wr := [(o, .inl (cL, 1, .inr (.inl (fun _ => 0))))]) (w1 := []) hP hD [0, 1, 2] [3] rfl rfl (by decide) (by decide) hk1 hFc zP_nil zD_nil
      refine vx_catch (name := "java/lang/IllegalArgumentException") hown [] ⟨0, 14, 17, 13⟩ [⟨0, 14, 21, 41⟩, ⟨0, 14, 25, 15⟩] hTab ((fun _ h => nomatch h)) (by decide) (by decide) (ht _ zw_592) (va_Nw.use rfl (hEx.1.2.2.2.1 "java/lang/IllegalArgumentException" (by decide))) hcell hv hcl ?_
      generalize H1 = H at hP hS ⊢
      have hP : va_P D vwCl [(o, .inl (cL, 1, .inr (.inl (fun _ => 0))))] H := hP
      have hD : va_D A [(o, .inl (cL, 1, .inr (.inl (fun _ => 0))))] := hD
      refine W.widen (k := 2) (n := 12) (Nat.le_of_ble_eq_true rfl) (Nat.le_of_ble_eq_true rfl) ?_
      refine lv_astore (lv' := [(6, .ref q9), (0, .ref (h 0)), (1, .int p0), (2, .int p1), (3, .int p2), (4, .int p3), (5, .ref o)]) hx hb dL_across_17 hl (by decide) rfl (fun ls hl => ?_)
      refine lv_iconst (v := 1) hx hb dL_across_19 (by decide) ?_
      have hP9 := hP.sub (ws' := [(o, .inl (cL, 1, .inr (.inl (fun _ => 0))))]) [0] rfl
      have hD9 := hD.sub (ws' := [(o, .inl (cL, 1, .inr (.inl (fun _ => 0))))]) [0] (by decide) rfl
      have hK9 := hK.sub (tys' := []) [] rfl
      refine W.widen (k := 2) (n := 12) (Nat.le_of_ble_eq_true rfl) (Nat.le_of_ble_eq_true rfl) ?_
      exact W.iret (v := 1) hx hb hr (fun t ht0 hW => ⟨⟨1, 0, rfl, hb9, (fun _ => 0), rfl, zE_of hP9 hK9 hD9 ht0 hW⟩, hS.F ht0⟩) hS.2.2 dL_across_20
    · skip
      obtain ⟨hP, hD⟩ := va_join (wr := [(o, .inl (cL, 1, .inr (.inl (fun _ => 0))))]) (w1 := []) hP hD [0, 1, 2] [3] rfl rfl (by decide) (by decide) hk1 hFc zP_nil zD_nil
      refine vx_catch (name := "java/util/NoSuchElementException") hown [⟨0, 14, 17, 13⟩] ⟨0, 14, 21, 41⟩ [⟨0, 14, 25, 15⟩] hTab (List.forall_mem_cons.mpr ⟨.inr ⟨by decide, "java/lang/IllegalArgumentException", ht _ zw_592, hNc ("java/util/NoSuchElementException", "java/lang/IllegalArgumentException") (by decide)⟩, (fun _ h => nomatch h)⟩) (by decide) (by decide) (ht _ zw_619) (va_Nw.use rfl (hEx.1.2.2.2.1 "java/util/NoSuchElementException" (by decide))) hcell hv hcl ?_
      generalize H1 = H at hP hS ⊢
      have hP : va_P D vwCl [(o, .inl (cL, 1, .inr (.inl (fun _ => 0))))] H := hP
      have hD : va_D A [(o, .inl (cL, 1, .inr (.inl (fun _ => 0))))] := hD
      refine W.widen (k := 2) (n := 12) (Nat.le_of_ble_eq_true rfl) (Nat.le_of_ble_eq_true rfl) ?_
      refine lv_astore (lv' := [(6, .ref q9), (0, .ref (h 0)), (1, .int p0), (2, .int p1), (3, .int p2), (4, .int p3), (5, .ref o)]) hx hb dL_across_21 hl (by decide) rfl (fun ls hl => ?_)
      refine lv_iconst (v := 2) hx hb dL_across_23 (by decide) ?_
      have hP9 := hP.sub (ws' := [(o, .inl (cL, 1, .inr (.inl (fun _ => 0))))]) [0] rfl
      have hD9 := hD.sub (ws' := [(o, .inl (cL, 1, .inr (.inl (fun _ => 0))))]) [0] (by decide) rfl
      have hK9 := hK.sub (tys' := []) [] rfl
      refine W.widen (k := 2) (n := 12) (Nat.le_of_ble_eq_true rfl) (Nat.le_of_ble_eq_true rfl) ?_
      exact W.iret (v := 2) hx hb hr (fun t ht0 hW => ⟨⟨2, 0, rfl, hb9, (fun _ => 0), rfl, zE_of hP9 hK9 hD9 ht0 hW⟩, hS.F ht0⟩) hS.2.2 dL_across_24
  obtain ⟨hP1, hK1, hD1⟩ := hB
  rw [ht0] at hP1
  have hK1 := va_K.moved hvm.symm hK1
  obtain ⟨hP, hD⟩ := va_join (wr := [(o, .inl (cL, 1, .inr (.inl (fun _ => 0))))]) (w1 := []) hP hD [0, 1, 2] [3] rfl rfl (by decide) (by decide) hk1 hFc hP1 hD1
  generalize H1 = H at hP hS ⊢
  have hP : va_P D vwCl [(o, .inl (cL, 1, .inr (.inl (fun _ => 0))))] H := hP
  have hD : va_D A [(o, .inl (cL, 1, .inr (.inl (fun _ => 0))))] := hD
  refine W.widen (k := 2) (n := 12) (Nat.le_of_ble_eq_true rfl) (Nat.le_of_ble_eq_true rfl) ?_
  exfalso
  unfold zS_across at hw_1
  rcases hw_1 with ⟨h9, -⟩ | ⟨h9, -⟩
  · exact absurd h9 (by decide)
  · exact absurd h9 (by decide)
set_option maxHeartbeats 4000000 in
set_option maxRecDepth 100000 in
theorem k_L_begin (l : Launch) (hl0 : l.stackTraces = false) (sz : Nat) (D : va_G) (h cs : Nat → Nat) (p0 p1 : Int32) (o : Nat) (cL : ClassId) : Met l yL_begin (.codeWith yL_begin cL_begin 5 (some .int) [(0, 10, 13, 21), (0, 10, 17, 15)] :: zT) ({ frames := 8, cells := 3, slots := 18, locals := 137 }) (va_Pc [.ref (h 0), .int p0, .int p1, .ref o] (zY D [((h 0), .inr (11, [.ref (h 1), .ref (h 9), .int 0, .int 0, .ref (h 20), .ref (h 37), .int 0, .ref (h 38), .ref (h 42), .ref (h 43), .ref (h 44), .ref (h 45), .ref (h 46), .ref (h 47), .ref (h 48)])), ((h 1), .inr (8, [.ref (h 2), .int 0, .ref (h 3), .ref (h 4), .int 0, .ref (h 5), .int 0, .ref (h 6), .int 0, .ref (h 7), .int 0])), ((h 3), .inl ((cs 9), 10, .inr (.inr (.inr (.inr (fun _ => none)))))), (o, .inl (cL, 1, .inr (.inl (fun _ => 0))))] [((cs 9), .object RX9), (cL, .long)] sz)) (va_Qi (fun (r u : Int32) => zS_begin p0 p1 r u) (fun u t => ∃ g2 : Nat → Int64, g2 0 = u.toInt64 ∧ zE D [(o, .inl (cL, 1, .inr (.inl g2)))] [] (va_A [((h 0), .inr (11, [.ref (h 1), .ref (h 9), .int 0, .int 0, .ref (h 20), .ref (h 37), .int 0, .ref (h 38), .ref (h 42), .ref (h 43), .ref (h 44), .ref (h 45), .ref (h 46), .ref (h 47), .ref (h 48)])), ((h 1), .inr (8, [.ref (h 2), .int 0, .ref (h 3), .ref (h 4), .int 0, .ref (h 5), .int 0, .ref (h 6), .int 0, .ref (h 7), .int 0])), ((h 3), .inl ((cs 9), 10, .inr (.inr (.inr (.inr (fun _ => none)))))), (o, .inl (cL, 1, .inr (.inl (fun _ => 0))))] sz) t) (va_A [((h 0), .inr (11, [.ref (h 1), .ref (h 9), .int 0, .int 0, .ref (h 20), .ref (h 37), .int 0, .ref (h 38), .ref (h 42), .ref (h 43), .ref (h 44), .ref (h 45), .ref (h 46), .ref (h 47), .ref (h 48)])), ((h 1), .inr (8, [.ref (h 2), .int 0, .ref (h 3), .ref (h 4), .int 0, .ref (h 5), .int 0, .ref (h 6), .int 0, .ref (h 7), .int 0])), ((h 3), .inl ((cs 9), 10, .inr (.inr (.inr (.inr (fun _ => none)))))), (o, .inl (cL, 1, .inr (.inl (fun _ => 0))))] sz)) 3 18 (va_A [((h 0), .inr (11, [.ref (h 1), .ref (h 9), .int 0, .int 0, .ref (h 20), .ref (h 37), .int 0, .ref (h 38), .ref (h 42), .ref (h 43), .ref (h 44), .ref (h 45), .ref (h 46), .ref (h 47), .ref (h 48)])), ((h 1), .inr (8, [.ref (h 2), .int 0, .ref (h 3), .ref (h 4), .int 0, .ref (h 5), .int 0, .ref (h 6), .int 0, .ref (h 7), .int 0])), ((h 3), .inl ((cs 9), 10, .inr (.inr (.inr (.inr (fun _ => none)))))), (o, .inl (cL, 1, .inr (.inl (fun _ => 0))))] sz) := by
  refine zOfWH (cc := cL_begin) (maxL := 5) (ret := (some .int)) (by decide) rfl ?_
  intro p e s m args below meth c s₁ B hml hv
  obtain ⟨rfl, hNc, hEx, hsz, hP, hK, hD0⟩ := hv
  have hx := B.exec
  have hb := B.bytes
  have hr := B.returns
  have hts := atoms_spec (ws := (.codeWith yL_begin cL_begin 5 (some .int) [(0, 10, 13, 21), (0, 10, 17, 15)] :: zT)) B.pre
  have ht : ∀ w ∈ zT, w.before _ s = true := fun w h => hts w (List.mem_cons_of_mem _ h)
  have hown : s.vm.findClass RL = some m.cls := findClass_of_methodNamed B.named
  have hlocks := B.notSynchronized
  have hTab := vx_table (x := yL_begin) B (hts _ List.mem_cons_self)
  subst hsz
  have hD := hD0.self (sz := s.heap.size)
  generalize hAe : va_A [((h 0), .inr (11, [.ref (h 1), .ref (h 9), .int 0, .int 0, .ref (h 20), .ref (h 37), .int 0, .ref (h 38), .ref (h 42), .ref (h 43), .ref (h 44), .ref (h 45), .ref (h 46), .ref (h 47), .ref (h 48)])), ((h 1), .inr (8, [.ref (h 2), .int 0, .ref (h 3), .ref (h 4), .int 0, .ref (h 5), .int 0, .ref (h 6), .int 0, .ref (h 7), .int 0])), ((h 3), .inl ((cs 9), 10, .inr (.inr (.inr (.inr (fun _ => none)))))), (o, .inl (cL, 1, .inr (.inl (fun _ => 0))))] s.heap.size = A at hD hEx ⊢
  have hA : ∀ q : Nat, s.heap.size ≤ q → A q := fun q h => by rw [← hAe]; exact Or.inr h
  have hS : va_S A s.heap s.heap [] := va_S.rf
  have hP : va_P D vwCl [((h 0), .inr (11, [.ref (h 1), .ref (h 9), .int 0, .int 0, .ref (h 20), .ref (h 37), .int 0, .ref (h 38), .ref (h 42), .ref (h 43), .ref (h 44), .ref (h 45), .ref (h 46), .ref (h 47), .ref (h 48)])), ((h 1), .inr (8, [.ref (h 2), .int 0, .ref (h 3), .ref (h 4), .int 0, .ref (h 5), .int 0, .ref (h 6), .int 0, .ref (h 7), .int 0])), ((h 3), .inl ((cs 9), 10, .inr (.inr (.inr (.inr (fun _ => none)))))), (o, .inl (cL, 1, .inr (.inl (fun _ => 0))))] s.heap := hP
  have hl := lv_entry ([.ref (h 0), .int p0, .int p1, .ref o]) (n := 5) (Nat.le_of_ble_eq_true rfl)
  rw [lg_entry_eq]
  generalize (lg_sl ([.ref (h 0), .int p0, .int p1, .ref o]) ++ List.replicate (5 - (lg_sl ([.ref (h 0), .int p0, .int p1, .ref o])).length) Slot.unset).toArray = ls at hl ⊢
  have hl : lv_has ls 5 [(0, .ref (h 0)), (1, .int p0), (2, .int p1), (3, .ref o)] := hl
  skip
  refine lv_aload_n hx hb dL_begin_0 rfl (lv_at hl 3 rfl) ?_
  refine lv_iconst (v := 0) hx hb dL_begin_1 (by decide) ?_
  refine lv_aload_n hx hb dL_begin_2 rfl (lv_at hl 0 rfl) ?_
  refine lv_iload_n hx hb dL_begin_3 rfl (lv_at hl 1 rfl) ?_
  refine lv_iload_n hx hb dL_begin_4 rfl (lv_at hl 2 rfl) ?_
  have hPc := hP.sub (ws' := [((h 0), .inr (11, [.ref (h 1), .ref (h 9), .int 0, .int 0, .ref (h 20), .ref (h 37), .int 0, .ref (h 38), .ref (h 42), .ref (h 43), .ref (h 44), .ref (h 45), .ref (h 46), .ref (h 47), .ref (h 48)])), ((h 1), .inr (8, [.ref (h 2), .int 0, .ref (h 3), .ref (h 4), .int 0, .ref (h 5), .int 0, .ref (h 6), .int 0, .ref (h 7), .int 0])), ((h 3), .inl ((cs 9), 10, .inr (.inr (.inr (.inr (fun _ => none))))))]) [0, 1, 2] rfl
  have hDc := hD.sub (ws' := [((h 0), .inr (11, [.ref (h 1), .ref (h 9), .int 0, .int 0, .ref (h 20), .ref (h 37), .int 0, .ref (h 38), .ref (h 42), .ref (h 43), .ref (h 44), .ref (h 45), .ref (h 46), .ref (h 47), .ref (h 48)])), ((h 1), .inr (8, [.ref (h 2), .int 0, .ref (h 3), .ref (h 4), .int 0, .ref (h 5), .int 0, .ref (h 6), .int 0, .ref (h 7), .int 0])), ((h 3), .inl ((cs 9), 10, .inr (.inr (.inr (.inr (fun _ => none))))))]) [0, 1, 2] (by decide) rfl
  have hKc := hK.sub (tys' := [((cs 9), .object RX9)]) [0] rfl
  have hFc := va_free (wc := [((h 0), .inr (11, [.ref (h 1), .ref (h 9), .int 0, .int 0, .ref (h 20), .ref (h 37), .int 0, .ref (h 38), .ref (h 42), .ref (h 43), .ref (h 44), .ref (h 45), .ref (h 46), .ref (h 47), .ref (h 48)])), ((h 1), .inr (8, [.ref (h 2), .int 0, .ref (h 3), .ref (h 4), .int 0, .ref (h 5), .int 0, .ref (h 6), .int 0, .ref (h 7), .int 0])), ((h 3), .inl ((cs 9), 10, .inr (.inr (.inr (.inr (fun _ => none))))))]) hD hS hA [0, 1, 2] rfl
  refine vx_calli (vx_runV (As := [.int p0, .int p1]) (rest := [.int 0, .ref o]) ⟨hx, hb, hml, hown, ht⟩ (k_X11_begin l hl0 _ D h cs p0 p1) (cwV 2 ht (zG_V zw_648 zw_649 zw_650 zw_404 zw_651) rfl rfl rfl (by decide +kernel) ⟨Nat.le_of_ble_eq_true rfl, Nat.le_of_ble_eq_true rfl⟩) (zW_V (va_recv hK hP (ci := 11) (q0 := 0) rfl rfl) hEx hS hFc hPc hKc hDc) rfl rfl hl.1 rfl (lv_room (Nat.le_of_ble_eq_true rfl)) dL_begin_5 ⟨Nat.le_of_ble_eq_true rfl, Nat.le_of_ble_eq_true rfl⟩) hS (fun q _ h => hFc q h) hFc (fun q _ h => hFc q h) (fun E ce q9 uu t H1 locs1 ht0 hvm hpx hB hz1 hk1 hS hcell hv hcl => ?_) (fun r_1 u_1 t H1 locs ht0 hvm hw_1 hB hz1 hk1 hS => ?_)
  · skip
    rcases hB with ⟨rfl, hb9⟩ | ⟨rfl, hb9⟩
    · skip
      obtain ⟨hP, hD⟩ := va_join (wr := [(o, .inl (cL, 1, .inr (.inl (fun _ => 0))))]) (w1 := []) hP hD [0, 1, 2] [3] rfl rfl (by decide) (by decide) hk1 hFc zP_nil zD_nil
      refine vx_catch (name := "java/lang/IndexOutOfBoundsException") hown [] ⟨0, 10, 13, 21⟩ [⟨0, 10, 17, 15⟩] hTab ((fun _ h => nomatch h)) (by decide) (by decide) (ht _ zw_597) (va_Nw.use rfl (hEx.1.2.2.2.1 "java/lang/IndexOutOfBoundsException" (by decide))) hcell hv hcl ?_
      generalize H1 = H at hP hS ⊢
      have hP : va_P D vwCl [(o, .inl (cL, 1, .inr (.inl (fun _ => 0))))] H := hP
      have hD : va_D A [(o, .inl (cL, 1, .inr (.inl (fun _ => 0))))] := hD
      refine W.widen (k := 3) (n := 18) (Nat.le_of_ble_eq_true rfl) (Nat.le_of_ble_eq_true rfl) ?_
      refine lv_astore (lv' := [(4, .ref q9), (0, .ref (h 0)), (1, .int p0), (2, .int p1), (3, .ref o)]) hx hb dL_begin_13 hl (by decide) rfl (fun ls hl => ?_)
      refine lv_iconst (v := 1) hx hb dL_begin_15 (by decide) ?_
      have hP9 := hP.sub (ws' := [(o, .inl (cL, 1, .inr (.inl (fun _ => 0))))]) [0] rfl
      have hD9 := hD.sub (ws' := [(o, .inl (cL, 1, .inr (.inl (fun _ => 0))))]) [0] (by decide) rfl
      have hK9 := hK.sub (tys' := []) [] rfl
      refine W.widen (k := 3) (n := 18) (Nat.le_of_ble_eq_true rfl) (Nat.le_of_ble_eq_true rfl) ?_
      exact W.iret (v := 1) hx hb hr (fun t ht0 hW => ⟨⟨1, 0, rfl, hb9, (fun _ => 0), rfl, zE_of hP9 hK9 hD9 ht0 hW⟩, hS.F ht0⟩) hS.2.2 dL_begin_16
    · skip
      obtain ⟨hP, hD⟩ := va_join (wr := [(o, .inl (cL, 1, .inr (.inl (fun _ => 0))))]) (w1 := []) hP hD [0, 1, 2] [3] rfl rfl (by decide) (by decide) hk1 hFc zP_nil zD_nil
      refine vx_catch (name := "java/lang/IllegalStateException") hown [⟨0, 10, 13, 21⟩] ⟨0, 10, 17, 15⟩ [] hTab (List.forall_mem_cons.mpr ⟨.inr ⟨by decide, "java/lang/IndexOutOfBoundsException", ht _ zw_597, hNc ("java/lang/IllegalStateException", "java/lang/IndexOutOfBoundsException") (by decide)⟩, (fun _ h => nomatch h)⟩) (by decide) (by decide) (ht _ zw_610) (va_Nw.use rfl (hEx.1.2.2.2.1 "java/lang/IllegalStateException" (by decide))) hcell hv hcl ?_
      generalize H1 = H at hP hS ⊢
      have hP : va_P D vwCl [(o, .inl (cL, 1, .inr (.inl (fun _ => 0))))] H := hP
      have hD : va_D A [(o, .inl (cL, 1, .inr (.inl (fun _ => 0))))] := hD
      refine W.widen (k := 3) (n := 18) (Nat.le_of_ble_eq_true rfl) (Nat.le_of_ble_eq_true rfl) ?_
      refine lv_astore (lv' := [(4, .ref q9), (0, .ref (h 0)), (1, .int p0), (2, .int p1), (3, .ref o)]) hx hb dL_begin_17 hl (by decide) rfl (fun ls hl => ?_)
      refine lv_iconst (v := 2) hx hb dL_begin_19 (by decide) ?_
      have hP9 := hP.sub (ws' := [(o, .inl (cL, 1, .inr (.inl (fun _ => 0))))]) [0] rfl
      have hD9 := hD.sub (ws' := [(o, .inl (cL, 1, .inr (.inl (fun _ => 0))))]) [0] (by decide) rfl
      have hK9 := hK.sub (tys' := []) [] rfl
      refine W.widen (k := 3) (n := 18) (Nat.le_of_ble_eq_true rfl) (Nat.le_of_ble_eq_true rfl) ?_
      exact W.iret (v := 2) hx hb hr (fun t ht0 hW => ⟨⟨2, 0, rfl, hb9, (fun _ => 0), rfl, zE_of hP9 hK9 hD9 ht0 hW⟩, hS.F ht0⟩) hS.2.2 dL_begin_20
  obtain ⟨hP1, hK1, hD1⟩ := hB
  rw [ht0] at hP1
  have hK1 := va_K.moved hvm.symm hK1
  obtain ⟨hP, hD⟩ := va_join (wr := [(o, .inl (cL, 1, .inr (.inl (fun _ => 0))))]) (w1 := []) hP hD [0, 1, 2] [3] rfl rfl (by decide) (by decide) hk1 hFc hP1 hD1
  generalize H1 = H at hP hS ⊢
  have hP : va_P D vwCl [(o, .inl (cL, 1, .inr (.inl (fun _ => 0))))] H := hP
  have hD : va_D A [(o, .inl (cL, 1, .inr (.inl (fun _ => 0))))] := hD
  refine W.widen (k := 3) (n := 18) (Nat.le_of_ble_eq_true rfl) (Nat.le_of_ble_eq_true rfl) ?_
  exfalso
  unfold zS_begin at hw_1
  rcases hw_1 with ⟨h9, -⟩ | ⟨h9, -⟩
  · exact absurd h9 (by decide)
  · exact absurd h9 (by decide)
set_option maxHeartbeats 4000000 in
set_option maxRecDepth 100000 in
theorem k_L_line (l : Launch) (hl0 : l.stackTraces = false) (sz : Nat) (D : va_G) (h cs : Nat → Nat) (p0 p1 p2 : Int32) (o : Nat) (cL : ClassId) : Met l yL_line (.codeWith yL_line cL_line 6 (some .int) [(0, 12, 15, 21), (0, 12, 19, 13), (0, 12, 23, 15)] :: zT) ({ frames := 8, cells := 4, slots := 24, locals := 136 }) (va_Pc [.ref (h 0), .int p0, .int p1, .int p2, .ref o] (zY D [((h 0), .inr (11, [.ref (h 1), .ref (h 9), .int 0, .int 0, .ref (h 20), .ref (h 37), .int 0, .ref (h 38), .ref (h 42), .ref (h 43), .ref (h 44), .ref (h 45), .ref (h 46), .ref (h 47), .ref (h 48)])), ((h 1), .inr (8, [.ref (h 2), .int 0, .ref (h 3), .ref (h 4), .int 0, .ref (h 5), .int 0, .ref (h 6), .int 0, .ref (h 7), .int 0])), ((h 3), .inl ((cs 9), 10, .inr (.inr (.inr (.inr (fun _ => none)))))), (o, .inl (cL, 1, .inr (.inl (fun _ => 0))))] [((cs 9), .object RX9), (cL, .long)] sz)) (va_Qi (fun (r u : Int32) => zS_line p0 p1 p2 r u) (fun u t => ∃ g2 : Nat → Int64, g2 0 = u.toInt64 ∧ zE D [(o, .inl (cL, 1, .inr (.inl g2)))] [] (va_A [((h 0), .inr (11, [.ref (h 1), .ref (h 9), .int 0, .int 0, .ref (h 20), .ref (h 37), .int 0, .ref (h 38), .ref (h 42), .ref (h 43), .ref (h 44), .ref (h 45), .ref (h 46), .ref (h 47), .ref (h 48)])), ((h 1), .inr (8, [.ref (h 2), .int 0, .ref (h 3), .ref (h 4), .int 0, .ref (h 5), .int 0, .ref (h 6), .int 0, .ref (h 7), .int 0])), ((h 3), .inl ((cs 9), 10, .inr (.inr (.inr (.inr (fun _ => none)))))), (o, .inl (cL, 1, .inr (.inl (fun _ => 0))))] sz) t) (va_A [((h 0), .inr (11, [.ref (h 1), .ref (h 9), .int 0, .int 0, .ref (h 20), .ref (h 37), .int 0, .ref (h 38), .ref (h 42), .ref (h 43), .ref (h 44), .ref (h 45), .ref (h 46), .ref (h 47), .ref (h 48)])), ((h 1), .inr (8, [.ref (h 2), .int 0, .ref (h 3), .ref (h 4), .int 0, .ref (h 5), .int 0, .ref (h 6), .int 0, .ref (h 7), .int 0])), ((h 3), .inl ((cs 9), 10, .inr (.inr (.inr (.inr (fun _ => none)))))), (o, .inl (cL, 1, .inr (.inl (fun _ => 0))))] sz)) 4 24 (va_A [((h 0), .inr (11, [.ref (h 1), .ref (h 9), .int 0, .int 0, .ref (h 20), .ref (h 37), .int 0, .ref (h 38), .ref (h 42), .ref (h 43), .ref (h 44), .ref (h 45), .ref (h 46), .ref (h 47), .ref (h 48)])), ((h 1), .inr (8, [.ref (h 2), .int 0, .ref (h 3), .ref (h 4), .int 0, .ref (h 5), .int 0, .ref (h 6), .int 0, .ref (h 7), .int 0])), ((h 3), .inl ((cs 9), 10, .inr (.inr (.inr (.inr (fun _ => none)))))), (o, .inl (cL, 1, .inr (.inl (fun _ => 0))))] sz) := by
  refine zOfWH (cc := cL_line) (maxL := 6) (ret := (some .int)) (by decide) rfl ?_
  intro p e s m args below meth c s₁ B hml hv
  obtain ⟨rfl, hNc, hEx, hsz, hP, hK, hD0⟩ := hv
  have hx := B.exec
  have hb := B.bytes
  have hr := B.returns
  have hts := atoms_spec (ws := (.codeWith yL_line cL_line 6 (some .int) [(0, 12, 15, 21), (0, 12, 19, 13), (0, 12, 23, 15)] :: zT)) B.pre
  have ht : ∀ w ∈ zT, w.before _ s = true := fun w h => hts w (List.mem_cons_of_mem _ h)
  have hown : s.vm.findClass RL = some m.cls := findClass_of_methodNamed B.named
  have hlocks := B.notSynchronized
  have hTab := vx_table (x := yL_line) B (hts _ List.mem_cons_self)
  subst hsz
  have hD := hD0.self (sz := s.heap.size)
  generalize hAe : va_A [((h 0), .inr (11, [.ref (h 1), .ref (h 9), .int 0, .int 0, .ref (h 20), .ref (h 37), .int 0, .ref (h 38), .ref (h 42), .ref (h 43), .ref (h 44), .ref (h 45), .ref (h 46), .ref (h 47), .ref (h 48)])), ((h 1), .inr (8, [.ref (h 2), .int 0, .ref (h 3), .ref (h 4), .int 0, .ref (h 5), .int 0, .ref (h 6), .int 0, .ref (h 7), .int 0])), ((h 3), .inl ((cs 9), 10, .inr (.inr (.inr (.inr (fun _ => none)))))), (o, .inl (cL, 1, .inr (.inl (fun _ => 0))))] s.heap.size = A at hD hEx ⊢
  have hA : ∀ q : Nat, s.heap.size ≤ q → A q := fun q h => by rw [← hAe]; exact Or.inr h
  have hS : va_S A s.heap s.heap [] := va_S.rf
  have hP : va_P D vwCl [((h 0), .inr (11, [.ref (h 1), .ref (h 9), .int 0, .int 0, .ref (h 20), .ref (h 37), .int 0, .ref (h 38), .ref (h 42), .ref (h 43), .ref (h 44), .ref (h 45), .ref (h 46), .ref (h 47), .ref (h 48)])), ((h 1), .inr (8, [.ref (h 2), .int 0, .ref (h 3), .ref (h 4), .int 0, .ref (h 5), .int 0, .ref (h 6), .int 0, .ref (h 7), .int 0])), ((h 3), .inl ((cs 9), 10, .inr (.inr (.inr (.inr (fun _ => none)))))), (o, .inl (cL, 1, .inr (.inl (fun _ => 0))))] s.heap := hP
  have hl := lv_entry ([.ref (h 0), .int p0, .int p1, .int p2, .ref o]) (n := 6) (Nat.le_of_ble_eq_true rfl)
  rw [lg_entry_eq]
  generalize (lg_sl ([.ref (h 0), .int p0, .int p1, .int p2, .ref o]) ++ List.replicate (6 - (lg_sl ([.ref (h 0), .int p0, .int p1, .int p2, .ref o])).length) Slot.unset).toArray = ls at hl ⊢
  have hl : lv_has ls 6 [(0, .ref (h 0)), (1, .int p0), (2, .int p1), (3, .int p2), (4, .ref o)] := hl
  skip
  refine lv_aload hx hb dL_line_0 (lv_at hl 4 rfl) ?_
  refine lv_iconst (v := 0) hx hb dL_line_2 (by decide) ?_
  refine lv_aload_n hx hb dL_line_3 rfl (lv_at hl 0 rfl) ?_
  refine lv_iload_n hx hb dL_line_4 rfl (lv_at hl 1 rfl) ?_
  refine lv_iload_n hx hb dL_line_5 rfl (lv_at hl 2 rfl) ?_
  refine lv_iload_n hx hb dL_line_6 rfl (lv_at hl 3 rfl) ?_
  have hPc := hP.sub (ws' := [((h 0), .inr (11, [.ref (h 1), .ref (h 9), .int 0, .int 0, .ref (h 20), .ref (h 37), .int 0, .ref (h 38), .ref (h 42), .ref (h 43), .ref (h 44), .ref (h 45), .ref (h 46), .ref (h 47), .ref (h 48)])), ((h 1), .inr (8, [.ref (h 2), .int 0, .ref (h 3), .ref (h 4), .int 0, .ref (h 5), .int 0, .ref (h 6), .int 0, .ref (h 7), .int 0])), ((h 3), .inl ((cs 9), 10, .inr (.inr (.inr (.inr (fun _ => none))))))]) [0, 1, 2] rfl
  have hDc := hD.sub (ws' := [((h 0), .inr (11, [.ref (h 1), .ref (h 9), .int 0, .int 0, .ref (h 20), .ref (h 37), .int 0, .ref (h 38), .ref (h 42), .ref (h 43), .ref (h 44), .ref (h 45), .ref (h 46), .ref (h 47), .ref (h 48)])), ((h 1), .inr (8, [.ref (h 2), .int 0, .ref (h 3), .ref (h 4), .int 0, .ref (h 5), .int 0, .ref (h 6), .int 0, .ref (h 7), .int 0])), ((h 3), .inl ((cs 9), 10, .inr (.inr (.inr (.inr (fun _ => none))))))]) [0, 1, 2] (by decide) rfl
  have hKc := hK.sub (tys' := [((cs 9), .object RX9)]) [0] rfl
  have hFc := va_free (wc := [((h 0), .inr (11, [.ref (h 1), .ref (h 9), .int 0, .int 0, .ref (h 20), .ref (h 37), .int 0, .ref (h 38), .ref (h 42), .ref (h 43), .ref (h 44), .ref (h 45), .ref (h 46), .ref (h 47), .ref (h 48)])), ((h 1), .inr (8, [.ref (h 2), .int 0, .ref (h 3), .ref (h 4), .int 0, .ref (h 5), .int 0, .ref (h 6), .int 0, .ref (h 7), .int 0])), ((h 3), .inl ((cs 9), 10, .inr (.inr (.inr (.inr (fun _ => none))))))]) hD hS hA [0, 1, 2] rfl
  refine vx_calli (vx_runV (As := [.int p0, .int p1, .int p2]) (rest := [.int 0, .ref o]) ⟨hx, hb, hml, hown, ht⟩ (k_X11_line l hl0 _ D h cs p0 p1 p2) (cwV 3 ht (zG_V zw_652 zw_653 zw_654 zw_404 zw_655) rfl rfl rfl (by decide +kernel) ⟨Nat.le_of_ble_eq_true rfl, Nat.le_of_ble_eq_true rfl⟩) (zW_V (va_recv hK hP (ci := 11) (q0 := 0) rfl rfl) hEx hS hFc hPc hKc hDc) rfl rfl hl.1 rfl (lv_room (Nat.le_of_ble_eq_true rfl)) dL_line_7 ⟨Nat.le_of_ble_eq_true rfl, Nat.le_of_ble_eq_true rfl⟩) hS (fun q _ h => hFc q h) hFc (fun q _ h => hFc q h) (fun E ce q9 uu t H1 locs1 ht0 hvm hpx hB hz1 hk1 hS hcell hv hcl => ?_) (fun r_1 u_1 t H1 locs ht0 hvm hw_1 hB hz1 hk1 hS => ?_)
  · skip
    rcases hB with ⟨rfl, hb9⟩ | ⟨rfl, hb9⟩ | ⟨rfl, hb9⟩
    · skip
      obtain ⟨hP, hD⟩ := va_join (wr := [(o, .inl (cL, 1, .inr (.inl (fun _ => 0))))]) (w1 := []) hP hD [0, 1, 2] [3] rfl rfl (by decide) (by decide) hk1 hFc zP_nil zD_nil
      refine vx_catch (name := "java/lang/IndexOutOfBoundsException") hown [] ⟨0, 12, 15, 21⟩ [⟨0, 12, 19, 13⟩, ⟨0, 12, 23, 15⟩] hTab ((fun _ h => nomatch h)) (by decide) (by decide) (ht _ zw_597) (va_Nw.use rfl (hEx.1.2.2.2.1 "java/lang/IndexOutOfBoundsException" (by decide))) hcell hv hcl ?_
      generalize H1 = H at hP hS ⊢
      have hP : va_P D vwCl [(o, .inl (cL, 1, .inr (.inl (fun _ => 0))))] H := hP
      have hD : va_D A [(o, .inl (cL, 1, .inr (.inl (fun _ => 0))))] := hD
      refine W.widen (k := 4) (n := 24) (Nat.le_of_ble_eq_true rfl) (Nat.le_of_ble_eq_true rfl) ?_
      refine lv_astore (lv' := [(5, .ref q9), (0, .ref (h 0)), (1, .int p0), (2, .int p1), (3, .int p2), (4, .ref o)]) hx hb dL_line_15 hl (by decide) rfl (fun ls hl => ?_)
      refine lv_iconst (v := 1) hx hb dL_line_17 (by decide) ?_
      have hP9 := hP.sub (ws' := [(o, .inl (cL, 1, .inr (.inl (fun _ => 0))))]) [0] rfl
      have hD9 := hD.sub (ws' := [(o, .inl (cL, 1, .inr (.inl (fun _ => 0))))]) [0] (by decide) rfl
      have hK9 := hK.sub (tys' := []) [] rfl
      refine W.widen (k := 4) (n := 24) (Nat.le_of_ble_eq_true rfl) (Nat.le_of_ble_eq_true rfl) ?_
      exact W.iret (v := 1) hx hb hr (fun t ht0 hW => ⟨⟨1, 0, rfl, hb9, (fun _ => 0), rfl, zE_of hP9 hK9 hD9 ht0 hW⟩, hS.F ht0⟩) hS.2.2 dL_line_18
    · skip
      obtain ⟨hP, hD⟩ := va_join (wr := [(o, .inl (cL, 1, .inr (.inl (fun _ => 0))))]) (w1 := []) hP hD [0, 1, 2] [3] rfl rfl (by decide) (by decide) hk1 hFc zP_nil zD_nil
      refine vx_catch (name := "java/lang/IllegalArgumentException") hown [⟨0, 12, 15, 21⟩] ⟨0, 12, 19, 13⟩ [⟨0, 12, 23, 15⟩] hTab (List.forall_mem_cons.mpr ⟨.inr ⟨by decide, "java/lang/IndexOutOfBoundsException", ht _ zw_597, hNc ("java/lang/IllegalArgumentException", "java/lang/IndexOutOfBoundsException") (by decide)⟩, (fun _ h => nomatch h)⟩) (by decide) (by decide) (ht _ zw_592) (va_Nw.use rfl (hEx.1.2.2.2.1 "java/lang/IllegalArgumentException" (by decide))) hcell hv hcl ?_
      generalize H1 = H at hP hS ⊢
      have hP : va_P D vwCl [(o, .inl (cL, 1, .inr (.inl (fun _ => 0))))] H := hP
      have hD : va_D A [(o, .inl (cL, 1, .inr (.inl (fun _ => 0))))] := hD
      refine W.widen (k := 4) (n := 24) (Nat.le_of_ble_eq_true rfl) (Nat.le_of_ble_eq_true rfl) ?_
      refine lv_astore (lv' := [(5, .ref q9), (0, .ref (h 0)), (1, .int p0), (2, .int p1), (3, .int p2), (4, .ref o)]) hx hb dL_line_19 hl (by decide) rfl (fun ls hl => ?_)
      refine lv_iconst (v := 2) hx hb dL_line_21 (by decide) ?_
      have hP9 := hP.sub (ws' := [(o, .inl (cL, 1, .inr (.inl (fun _ => 0))))]) [0] rfl
      have hD9 := hD.sub (ws' := [(o, .inl (cL, 1, .inr (.inl (fun _ => 0))))]) [0] (by decide) rfl
      have hK9 := hK.sub (tys' := []) [] rfl
      refine W.widen (k := 4) (n := 24) (Nat.le_of_ble_eq_true rfl) (Nat.le_of_ble_eq_true rfl) ?_
      exact W.iret (v := 2) hx hb hr (fun t ht0 hW => ⟨⟨2, 0, rfl, hb9, (fun _ => 0), rfl, zE_of hP9 hK9 hD9 ht0 hW⟩, hS.F ht0⟩) hS.2.2 dL_line_22
    · skip
      obtain ⟨hP, hD⟩ := va_join (wr := [(o, .inl (cL, 1, .inr (.inl (fun _ => 0))))]) (w1 := []) hP hD [0, 1, 2] [3] rfl rfl (by decide) (by decide) hk1 hFc zP_nil zD_nil
      refine vx_catch (name := "java/lang/IllegalStateException") hown [⟨0, 12, 15, 21⟩, ⟨0, 12, 19, 13⟩] ⟨0, 12, 23, 15⟩ [] hTab (List.forall_mem_cons.mpr ⟨.inr ⟨by decide, "java/lang/IndexOutOfBoundsException", ht _ zw_597, hNc ("java/lang/IllegalStateException", "java/lang/IndexOutOfBoundsException") (by decide)⟩, List.forall_mem_cons.mpr ⟨.inr ⟨by decide, "java/lang/IllegalArgumentException", ht _ zw_592, hNc ("java/lang/IllegalStateException", "java/lang/IllegalArgumentException") (by decide)⟩, (fun _ h => nomatch h)⟩⟩) (by decide) (by decide) (ht _ zw_610) (va_Nw.use rfl (hEx.1.2.2.2.1 "java/lang/IllegalStateException" (by decide))) hcell hv hcl ?_
      generalize H1 = H at hP hS ⊢
      have hP : va_P D vwCl [(o, .inl (cL, 1, .inr (.inl (fun _ => 0))))] H := hP
      have hD : va_D A [(o, .inl (cL, 1, .inr (.inl (fun _ => 0))))] := hD
      refine W.widen (k := 4) (n := 24) (Nat.le_of_ble_eq_true rfl) (Nat.le_of_ble_eq_true rfl) ?_
      refine lv_astore (lv' := [(5, .ref q9), (0, .ref (h 0)), (1, .int p0), (2, .int p1), (3, .int p2), (4, .ref o)]) hx hb dL_line_23 hl (by decide) rfl (fun ls hl => ?_)
      refine lv_iconst (v := 3) hx hb dL_line_25 (by decide) ?_
      have hP9 := hP.sub (ws' := [(o, .inl (cL, 1, .inr (.inl (fun _ => 0))))]) [0] rfl
      have hD9 := hD.sub (ws' := [(o, .inl (cL, 1, .inr (.inl (fun _ => 0))))]) [0] (by decide) rfl
      have hK9 := hK.sub (tys' := []) [] rfl
      refine W.widen (k := 4) (n := 24) (Nat.le_of_ble_eq_true rfl) (Nat.le_of_ble_eq_true rfl) ?_
      exact W.iret (v := 3) hx hb hr (fun t ht0 hW => ⟨⟨3, 0, rfl, hb9, (fun _ => 0), rfl, zE_of hP9 hK9 hD9 ht0 hW⟩, hS.F ht0⟩) hS.2.2 dL_line_26
  obtain ⟨hP1, hK1, hD1⟩ := hB
  rw [ht0] at hP1
  have hK1 := va_K.moved hvm.symm hK1
  obtain ⟨hP, hD⟩ := va_join (wr := [(o, .inl (cL, 1, .inr (.inl (fun _ => 0))))]) (w1 := []) hP hD [0, 1, 2] [3] rfl rfl (by decide) (by decide) hk1 hFc hP1 hD1
  generalize H1 = H at hP hS ⊢
  have hP : va_P D vwCl [(o, .inl (cL, 1, .inr (.inl (fun _ => 0))))] H := hP
  have hD : va_D A [(o, .inl (cL, 1, .inr (.inl (fun _ => 0))))] := hD
  refine W.widen (k := 4) (n := 24) (Nat.le_of_ble_eq_true rfl) (Nat.le_of_ble_eq_true rfl) ?_
  exfalso
  unfold zS_line at hw_1
  rcases hw_1 with ⟨h9, -⟩ | ⟨h9, -⟩ | ⟨h9, -⟩
  · exact absurd h9 (by decide)
  · exact absurd h9 (by decide)
  · exact absurd h9 (by decide)
set_option maxHeartbeats 4000000 in
set_option maxRecDepth 100000 in
theorem k_L_step (l : Launch) (hl0 : l.stackTraces = false) (sz : Nat) (D : va_G) (h cs : Nat → Nat) (p0 p1 p2 : Int32) (o : Nat) (cL : ClassId) : Met l yL_step (.codeWith yL_step cL_step 6 (some .int) [(0, 12, 15, 21), (0, 12, 19, 41), (0, 12, 23, 15), (0, 12, 27, 13)] :: zT) ({ frames := 8, cells := 3, slots := 18, locals := 137 }) (va_Pc [.ref (h 0), .int p0, .int p1, .int p2, .ref o] (zY D [((h 0), .inr (11, [.ref (h 1), .ref (h 9), .int 0, .int 0, .ref (h 20), .ref (h 37), .int 0, .ref (h 38), .ref (h 42), .ref (h 43), .ref (h 44), .ref (h 45), .ref (h 46), .ref (h 47), .ref (h 48)])), ((h 1), .inr (8, [.ref (h 2), .int 0, .ref (h 3), .ref (h 4), .int 0, .ref (h 5), .int 0, .ref (h 6), .int 0, .ref (h 7), .int 0])), ((h 4), .inl ((cs 4), 100, .inr (.inr (.inr (.inr (fun _ => none)))))), (o, .inl (cL, 1, .inr (.inl (fun _ => 0))))] [((cs 4), .object RX4), (cL, .long)] sz)) (va_Qi (fun (r u : Int32) => zS_step p0 p1 p2 r u) (fun u t => ∃ g2 : Nat → Int64, g2 0 = u.toInt64 ∧ zE D [(o, .inl (cL, 1, .inr (.inl g2)))] [] (va_A [((h 0), .inr (11, [.ref (h 1), .ref (h 9), .int 0, .int 0, .ref (h 20), .ref (h 37), .int 0, .ref (h 38), .ref (h 42), .ref (h 43), .ref (h 44), .ref (h 45), .ref (h 46), .ref (h 47), .ref (h 48)])), ((h 1), .inr (8, [.ref (h 2), .int 0, .ref (h 3), .ref (h 4), .int 0, .ref (h 5), .int 0, .ref (h 6), .int 0, .ref (h 7), .int 0])), ((h 4), .inl ((cs 4), 100, .inr (.inr (.inr (.inr (fun _ => none)))))), (o, .inl (cL, 1, .inr (.inl (fun _ => 0))))] sz) t) (va_A [((h 0), .inr (11, [.ref (h 1), .ref (h 9), .int 0, .int 0, .ref (h 20), .ref (h 37), .int 0, .ref (h 38), .ref (h 42), .ref (h 43), .ref (h 44), .ref (h 45), .ref (h 46), .ref (h 47), .ref (h 48)])), ((h 1), .inr (8, [.ref (h 2), .int 0, .ref (h 3), .ref (h 4), .int 0, .ref (h 5), .int 0, .ref (h 6), .int 0, .ref (h 7), .int 0])), ((h 4), .inl ((cs 4), 100, .inr (.inr (.inr (.inr (fun _ => none)))))), (o, .inl (cL, 1, .inr (.inl (fun _ => 0))))] sz)) 3 18 (va_A [((h 0), .inr (11, [.ref (h 1), .ref (h 9), .int 0, .int 0, .ref (h 20), .ref (h 37), .int 0, .ref (h 38), .ref (h 42), .ref (h 43), .ref (h 44), .ref (h 45), .ref (h 46), .ref (h 47), .ref (h 48)])), ((h 1), .inr (8, [.ref (h 2), .int 0, .ref (h 3), .ref (h 4), .int 0, .ref (h 5), .int 0, .ref (h 6), .int 0, .ref (h 7), .int 0])), ((h 4), .inl ((cs 4), 100, .inr (.inr (.inr (.inr (fun _ => none)))))), (o, .inl (cL, 1, .inr (.inl (fun _ => 0))))] sz) := by
  refine zOfWH (cc := cL_step) (maxL := 6) (ret := (some .int)) (by decide) rfl ?_
  intro p e s m args below meth c s₁ B hml hv
  obtain ⟨rfl, hNc, hEx, hsz, hP, hK, hD0⟩ := hv
  have hx := B.exec
  have hb := B.bytes
  have hr := B.returns
  have hts := atoms_spec (ws := (.codeWith yL_step cL_step 6 (some .int) [(0, 12, 15, 21), (0, 12, 19, 41), (0, 12, 23, 15), (0, 12, 27, 13)] :: zT)) B.pre
  have ht : ∀ w ∈ zT, w.before _ s = true := fun w h => hts w (List.mem_cons_of_mem _ h)
  have hown : s.vm.findClass RL = some m.cls := findClass_of_methodNamed B.named
  have hlocks := B.notSynchronized
  have hTab := vx_table (x := yL_step) B (hts _ List.mem_cons_self)
  subst hsz
  have hD := hD0.self (sz := s.heap.size)
  generalize hAe : va_A [((h 0), .inr (11, [.ref (h 1), .ref (h 9), .int 0, .int 0, .ref (h 20), .ref (h 37), .int 0, .ref (h 38), .ref (h 42), .ref (h 43), .ref (h 44), .ref (h 45), .ref (h 46), .ref (h 47), .ref (h 48)])), ((h 1), .inr (8, [.ref (h 2), .int 0, .ref (h 3), .ref (h 4), .int 0, .ref (h 5), .int 0, .ref (h 6), .int 0, .ref (h 7), .int 0])), ((h 4), .inl ((cs 4), 100, .inr (.inr (.inr (.inr (fun _ => none)))))), (o, .inl (cL, 1, .inr (.inl (fun _ => 0))))] s.heap.size = A at hD hEx ⊢
  have hA : ∀ q : Nat, s.heap.size ≤ q → A q := fun q h => by rw [← hAe]; exact Or.inr h
  have hS : va_S A s.heap s.heap [] := va_S.rf
  have hP : va_P D vwCl [((h 0), .inr (11, [.ref (h 1), .ref (h 9), .int 0, .int 0, .ref (h 20), .ref (h 37), .int 0, .ref (h 38), .ref (h 42), .ref (h 43), .ref (h 44), .ref (h 45), .ref (h 46), .ref (h 47), .ref (h 48)])), ((h 1), .inr (8, [.ref (h 2), .int 0, .ref (h 3), .ref (h 4), .int 0, .ref (h 5), .int 0, .ref (h 6), .int 0, .ref (h 7), .int 0])), ((h 4), .inl ((cs 4), 100, .inr (.inr (.inr (.inr (fun _ => none)))))), (o, .inl (cL, 1, .inr (.inl (fun _ => 0))))] s.heap := hP
  have hl := lv_entry ([.ref (h 0), .int p0, .int p1, .int p2, .ref o]) (n := 6) (Nat.le_of_ble_eq_true rfl)
  rw [lg_entry_eq]
  generalize (lg_sl ([.ref (h 0), .int p0, .int p1, .int p2, .ref o]) ++ List.replicate (6 - (lg_sl ([.ref (h 0), .int p0, .int p1, .int p2, .ref o])).length) Slot.unset).toArray = ls at hl ⊢
  have hl : lv_has ls 6 [(0, .ref (h 0)), (1, .int p0), (2, .int p1), (3, .int p2), (4, .ref o)] := hl
  skip
  refine lv_aload hx hb dL_step_0 (lv_at hl 4 rfl) ?_
  refine lv_iconst (v := 0) hx hb dL_step_2 (by decide) ?_
  refine lv_aload_n hx hb dL_step_3 rfl (lv_at hl 0 rfl) ?_
  refine lv_iload_n hx hb dL_step_4 rfl (lv_at hl 1 rfl) ?_
  refine lv_iload_n hx hb dL_step_5 rfl (lv_at hl 2 rfl) ?_
  refine lv_iload_n hx hb dL_step_6 rfl (lv_at hl 3 rfl) ?_
  have hPc := hP.sub (ws' := [((h 0), .inr (11, [.ref (h 1), .ref (h 9), .int 0, .int 0, .ref (h 20), .ref (h 37), .int 0, .ref (h 38), .ref (h 42), .ref (h 43), .ref (h 44), .ref (h 45), .ref (h 46), .ref (h 47), .ref (h 48)])), ((h 1), .inr (8, [.ref (h 2), .int 0, .ref (h 3), .ref (h 4), .int 0, .ref (h 5), .int 0, .ref (h 6), .int 0, .ref (h 7), .int 0])), ((h 4), .inl ((cs 4), 100, .inr (.inr (.inr (.inr (fun _ => none))))))]) [0, 1, 2] rfl
  have hDc := hD.sub (ws' := [((h 0), .inr (11, [.ref (h 1), .ref (h 9), .int 0, .int 0, .ref (h 20), .ref (h 37), .int 0, .ref (h 38), .ref (h 42), .ref (h 43), .ref (h 44), .ref (h 45), .ref (h 46), .ref (h 47), .ref (h 48)])), ((h 1), .inr (8, [.ref (h 2), .int 0, .ref (h 3), .ref (h 4), .int 0, .ref (h 5), .int 0, .ref (h 6), .int 0, .ref (h 7), .int 0])), ((h 4), .inl ((cs 4), 100, .inr (.inr (.inr (.inr (fun _ => none))))))]) [0, 1, 2] (by decide) rfl
  have hKc := hK.sub (tys' := [((cs 4), .object RX4)]) [0] rfl
  have hFc := va_free (wc := [((h 0), .inr (11, [.ref (h 1), .ref (h 9), .int 0, .int 0, .ref (h 20), .ref (h 37), .int 0, .ref (h 38), .ref (h 42), .ref (h 43), .ref (h 44), .ref (h 45), .ref (h 46), .ref (h 47), .ref (h 48)])), ((h 1), .inr (8, [.ref (h 2), .int 0, .ref (h 3), .ref (h 4), .int 0, .ref (h 5), .int 0, .ref (h 6), .int 0, .ref (h 7), .int 0])), ((h 4), .inl ((cs 4), 100, .inr (.inr (.inr (.inr (fun _ => none))))))]) hD hS hA [0, 1, 2] rfl
  refine vx_calli (vx_runV (As := [.int p0, .int p1, .int p2]) (rest := [.int 0, .ref o]) ⟨hx, hb, hml, hown, ht⟩ (k_X11_step l hl0 _ D h cs p0 p1 p2) (cwV 3 ht (zG_V zw_656 zw_657 zw_658 zw_404 zw_659) rfl rfl rfl (by decide +kernel) ⟨Nat.le_of_ble_eq_true rfl, Nat.le_of_ble_eq_true rfl⟩) (zW_V (va_recv hK hP (ci := 11) (q0 := 0) rfl rfl) hEx hS hFc hPc hKc hDc) rfl rfl hl.1 rfl (lv_room (Nat.le_of_ble_eq_true rfl)) dL_step_7 ⟨Nat.le_of_ble_eq_true rfl, Nat.le_of_ble_eq_true rfl⟩) hS (fun q _ h => hFc q h) hFc (fun q _ h => hFc q h) (fun E ce q9 uu t H1 locs1 ht0 hvm hpx hB hz1 hk1 hS hcell hv hcl => ?_) (fun r_1 u_1 t H1 locs ht0 hvm hw_1 hB hz1 hk1 hS => ?_)
  · skip
    rcases hB with ⟨rfl, hb9⟩ | ⟨rfl, hb9⟩
    · skip
      obtain ⟨hP, hD⟩ := va_join (wr := [(o, .inl (cL, 1, .inr (.inl (fun _ => 0))))]) (w1 := []) hP hD [0, 1, 2] [3] rfl rfl (by decide) (by decide) hk1 hFc zP_nil zD_nil
      refine vx_catch (name := "java/lang/IndexOutOfBoundsException") hown [] ⟨0, 12, 15, 21⟩ [⟨0, 12, 19, 41⟩, ⟨0, 12, 23, 15⟩, ⟨0, 12, 27, 13⟩] hTab ((fun _ h => nomatch h)) (by decide) (by decide) (ht _ zw_597) (va_Nw.use rfl (hEx.1.2.2.2.1 "java/lang/IndexOutOfBoundsException" (by decide))) hcell hv hcl ?_
      generalize H1 = H at hP hS ⊢
      have hP : va_P D vwCl [(o, .inl (cL, 1, .inr (.inl (fun _ => 0))))] H := hP
      have hD : va_D A [(o, .inl (cL, 1, .inr (.inl (fun _ => 0))))] := hD
      refine W.widen (k := 3) (n := 18) (Nat.le_of_ble_eq_true rfl) (Nat.le_of_ble_eq_true rfl) ?_
      refine lv_astore (lv' := [(5, .ref q9), (0, .ref (h 0)), (1, .int p0), (2, .int p1), (3, .int p2), (4, .ref o)]) hx hb dL_step_15 hl (by decide) rfl (fun ls hl => ?_)
      refine lv_iconst (v := 1) hx hb dL_step_17 (by decide) ?_
      have hP9 := hP.sub (ws' := [(o, .inl (cL, 1, .inr (.inl (fun _ => 0))))]) [0] rfl
      have hD9 := hD.sub (ws' := [(o, .inl (cL, 1, .inr (.inl (fun _ => 0))))]) [0] (by decide) rfl
      have hK9 := hK.sub (tys' := []) [] rfl
      refine W.widen (k := 3) (n := 18) (Nat.le_of_ble_eq_true rfl) (Nat.le_of_ble_eq_true rfl) ?_
      exact W.iret (v := 1) hx hb hr (fun t ht0 hW => ⟨⟨1, 0, rfl, hb9, (fun _ => 0), rfl, zE_of hP9 hK9 hD9 ht0 hW⟩, hS.F ht0⟩) hS.2.2 dL_step_18
    · skip
      obtain ⟨hP, hD⟩ := va_join (wr := [(o, .inl (cL, 1, .inr (.inl (fun _ => 0))))]) (w1 := []) hP hD [0, 1, 2] [3] rfl rfl (by decide) (by decide) hk1 hFc zP_nil zD_nil
      refine vx_catch (name := "java/util/NoSuchElementException") hown [⟨0, 12, 15, 21⟩] ⟨0, 12, 19, 41⟩ [⟨0, 12, 23, 15⟩, ⟨0, 12, 27, 13⟩] hTab (List.forall_mem_cons.mpr ⟨.inr ⟨by decide, "java/lang/IndexOutOfBoundsException", ht _ zw_597, hNc ("java/util/NoSuchElementException", "java/lang/IndexOutOfBoundsException") (by decide)⟩, (fun _ h => nomatch h)⟩) (by decide) (by decide) (ht _ zw_619) (va_Nw.use rfl (hEx.1.2.2.2.1 "java/util/NoSuchElementException" (by decide))) hcell hv hcl ?_
      generalize H1 = H at hP hS ⊢
      have hP : va_P D vwCl [(o, .inl (cL, 1, .inr (.inl (fun _ => 0))))] H := hP
      have hD : va_D A [(o, .inl (cL, 1, .inr (.inl (fun _ => 0))))] := hD
      refine W.widen (k := 3) (n := 18) (Nat.le_of_ble_eq_true rfl) (Nat.le_of_ble_eq_true rfl) ?_
      refine lv_astore (lv' := [(5, .ref q9), (0, .ref (h 0)), (1, .int p0), (2, .int p1), (3, .int p2), (4, .ref o)]) hx hb dL_step_19 hl (by decide) rfl (fun ls hl => ?_)
      refine lv_iconst (v := 2) hx hb dL_step_21 (by decide) ?_
      have hP9 := hP.sub (ws' := [(o, .inl (cL, 1, .inr (.inl (fun _ => 0))))]) [0] rfl
      have hD9 := hD.sub (ws' := [(o, .inl (cL, 1, .inr (.inl (fun _ => 0))))]) [0] (by decide) rfl
      have hK9 := hK.sub (tys' := []) [] rfl
      refine W.widen (k := 3) (n := 18) (Nat.le_of_ble_eq_true rfl) (Nat.le_of_ble_eq_true rfl) ?_
      exact W.iret (v := 2) hx hb hr (fun t ht0 hW => ⟨⟨2, 0, rfl, hb9, (fun _ => 0), rfl, zE_of hP9 hK9 hD9 ht0 hW⟩, hS.F ht0⟩) hS.2.2 dL_step_22
  obtain ⟨hP1, hK1, hD1⟩ := hB
  rw [ht0] at hP1
  have hK1 := va_K.moved hvm.symm hK1
  obtain ⟨hP, hD⟩ := va_join (wr := [(o, .inl (cL, 1, .inr (.inl (fun _ => 0))))]) (w1 := []) hP hD [0, 1, 2] [3] rfl rfl (by decide) (by decide) hk1 hFc hP1 hD1
  generalize H1 = H at hP hS ⊢
  have hP : va_P D vwCl [(o, .inl (cL, 1, .inr (.inl (fun _ => 0))))] H := hP
  have hD : va_D A [(o, .inl (cL, 1, .inr (.inl (fun _ => 0))))] := hD
  refine W.widen (k := 3) (n := 18) (Nat.le_of_ble_eq_true rfl) (Nat.le_of_ble_eq_true rfl) ?_
  exfalso
  unfold zS_step at hw_1
  rcases hw_1 with ⟨h9, -⟩ | ⟨h9, -⟩
  · exact absurd h9 (by decide)
  · exact absurd h9 (by decide)
set_option maxHeartbeats 4000000 in
set_option maxRecDepth 100000 in
theorem k_L_turn (l : Launch) (hl0 : l.stackTraces = false) (sz : Nat) (D : va_G) (h cs : Nat → Nat) (p0 : Int32) (fn : Nat → Option Nat) (hn : ∀ k : Nat, k < 4 → fn k = some (h 8)) (fp f0 : Nat → Option Nat) (hp : fp 0 = some (h 10)) (o : Nat) (cL : ClassId) : Met l yL_turn (.codeWith yL_turn cL_turn 4 (some .int) [(0, 9, 12, 21)] :: zT) ({ frames := 8, cells := 4, slots := 33, locals := 132 }) (va_Pc [.ref (h 0), .int p0, .ref o] (zY D [((h 0), .inr (11, [.ref (h 1), .ref (h 9), .int 0, .int 0, .ref (h 20), .ref (h 37), .int 0, .ref (h 38), .ref (h 42), .ref (h 43), .ref (h 44), .ref (h 45), .ref (h 46), .ref (h 47), .ref (h 48)])), ((h 1), .inr (8, [.ref (h 2), .int 0, .ref (h 3), .ref (h 4), .int 0, .ref (h 5), .int 0, .ref (h 6), .int 0, .ref (h 7), .int 0])), ((h 2), .inl ((cs 7), 4, .inr (.inr (.inr (.inr (fun _ => none)))))), ((h 3), .inl ((cs 9), 10, .inr (.inr (.inr (.inr (fun _ => none)))))), ((h 4), .inl ((cs 4), 100, .inr (.inr (.inr (.inr (fun _ => none)))))), ((h 5), .inl ((cs 2), 4, .inr (.inr (.inr (.inr (fun _ => none)))))), ((h 6), .inl ((cs 4), 3, .inr (.inr (.inr (.inr (fun _ => none)))))), ((h 7), .inl ((cs 0), 4, .inr (.inr (.inr (.inr fn))))), ((h 8), .inr (0, [.ref (h 102), .ref (h 103), .int 0])), ((h 9), .inl ((cs 8), 8, .inr (.inr (.inr (.inr fp))))), ((h 10), .inr (8, [.ref (h 11), .int 0, .ref (h 12), .ref (h 13), .int 0, .ref (h 14), .int 0, .ref (h 15), .int 0, .ref (h 16), .int 0])), ((h 11), .inl ((cs 7), 4, .inr (.inr (.inr (.inr (fun _ => none)))))), ((h 12), .inl ((cs 9), 10, .inr (.inr (.inr (.inr (fun _ => none)))))), ((h 13), .inl ((cs 4), 100, .inr (.inr (.inr (.inr (fun _ => none)))))), ((h 14), .inl ((cs 2), 4, .inr (.inr (.inr (.inr (fun _ => none)))))), ((h 15), .inl ((cs 4), 3, .inr (.inr (.inr (.inr (fun _ => none)))))), ((h 16), .inl ((cs 0), 4, .inr (.inr (.inr (.inr f0))))), (o, .inl (cL, 1, .inr (.inl (fun _ => 0))))] [((cs 7), .object RX7), ((cs 9), .object RX9), ((cs 4), .object RX4), ((cs 2), .object RX2), ((cs 0), .object RX0), ((cs 8), .object RX8), (cL, .long)] sz)) (va_Qi (fun (r u : Int32) => zS_turn p0 r u) (fun u t => ∃ g2 : Nat → Int64, g2 0 = u.toInt64 ∧ zE D [(o, .inl (cL, 1, .inr (.inl g2)))] [] (va_A [((h 0), .inr (11, [.ref (h 1), .ref (h 9), .int 0, .int 0, .ref (h 20), .ref (h 37), .int 0, .ref (h 38), .ref (h 42), .ref (h 43), .ref (h 44), .ref (h 45), .ref (h 46), .ref (h 47), .ref (h 48)])), ((h 1), .inr (8, [.ref (h 2), .int 0, .ref (h 3), .ref (h 4), .int 0, .ref (h 5), .int 0, .ref (h 6), .int 0, .ref (h 7), .int 0])), ((h 2), .inl ((cs 7), 4, .inr (.inr (.inr (.inr (fun _ => none)))))), ((h 3), .inl ((cs 9), 10, .inr (.inr (.inr (.inr (fun _ => none)))))), ((h 4), .inl ((cs 4), 100, .inr (.inr (.inr (.inr (fun _ => none)))))), ((h 5), .inl ((cs 2), 4, .inr (.inr (.inr (.inr (fun _ => none)))))), ((h 6), .inl ((cs 4), 3, .inr (.inr (.inr (.inr (fun _ => none)))))), ((h 7), .inl ((cs 0), 4, .inr (.inr (.inr (.inr fn))))), ((h 8), .inr (0, [.ref (h 102), .ref (h 103), .int 0])), ((h 9), .inl ((cs 8), 8, .inr (.inr (.inr (.inr fp))))), ((h 10), .inr (8, [.ref (h 11), .int 0, .ref (h 12), .ref (h 13), .int 0, .ref (h 14), .int 0, .ref (h 15), .int 0, .ref (h 16), .int 0])), ((h 11), .inl ((cs 7), 4, .inr (.inr (.inr (.inr (fun _ => none)))))), ((h 12), .inl ((cs 9), 10, .inr (.inr (.inr (.inr (fun _ => none)))))), ((h 13), .inl ((cs 4), 100, .inr (.inr (.inr (.inr (fun _ => none)))))), ((h 14), .inl ((cs 2), 4, .inr (.inr (.inr (.inr (fun _ => none)))))), ((h 15), .inl ((cs 4), 3, .inr (.inr (.inr (.inr (fun _ => none)))))), ((h 16), .inl ((cs 0), 4, .inr (.inr (.inr (.inr f0))))), (o, .inl (cL, 1, .inr (.inl (fun _ => 0))))] sz) t) (va_A [((h 0), .inr (11, [.ref (h 1), .ref (h 9), .int 0, .int 0, .ref (h 20), .ref (h 37), .int 0, .ref (h 38), .ref (h 42), .ref (h 43), .ref (h 44), .ref (h 45), .ref (h 46), .ref (h 47), .ref (h 48)])), ((h 1), .inr (8, [.ref (h 2), .int 0, .ref (h 3), .ref (h 4), .int 0, .ref (h 5), .int 0, .ref (h 6), .int 0, .ref (h 7), .int 0])), ((h 2), .inl ((cs 7), 4, .inr (.inr (.inr (.inr (fun _ => none)))))), ((h 3), .inl ((cs 9), 10, .inr (.inr (.inr (.inr (fun _ => none)))))), ((h 4), .inl ((cs 4), 100, .inr (.inr (.inr (.inr (fun _ => none)))))), ((h 5), .inl ((cs 2), 4, .inr (.inr (.inr (.inr (fun _ => none)))))), ((h 6), .inl ((cs 4), 3, .inr (.inr (.inr (.inr (fun _ => none)))))), ((h 7), .inl ((cs 0), 4, .inr (.inr (.inr (.inr fn))))), ((h 8), .inr (0, [.ref (h 102), .ref (h 103), .int 0])), ((h 9), .inl ((cs 8), 8, .inr (.inr (.inr (.inr fp))))), ((h 10), .inr (8, [.ref (h 11), .int 0, .ref (h 12), .ref (h 13), .int 0, .ref (h 14), .int 0, .ref (h 15), .int 0, .ref (h 16), .int 0])), ((h 11), .inl ((cs 7), 4, .inr (.inr (.inr (.inr (fun _ => none)))))), ((h 12), .inl ((cs 9), 10, .inr (.inr (.inr (.inr (fun _ => none)))))), ((h 13), .inl ((cs 4), 100, .inr (.inr (.inr (.inr (fun _ => none)))))), ((h 14), .inl ((cs 2), 4, .inr (.inr (.inr (.inr (fun _ => none)))))), ((h 15), .inl ((cs 4), 3, .inr (.inr (.inr (.inr (fun _ => none)))))), ((h 16), .inl ((cs 0), 4, .inr (.inr (.inr (.inr f0))))), (o, .inl (cL, 1, .inr (.inl (fun _ => 0))))] sz)) 4 33 (va_A [((h 0), .inr (11, [.ref (h 1), .ref (h 9), .int 0, .int 0, .ref (h 20), .ref (h 37), .int 0, .ref (h 38), .ref (h 42), .ref (h 43), .ref (h 44), .ref (h 45), .ref (h 46), .ref (h 47), .ref (h 48)])), ((h 1), .inr (8, [.ref (h 2), .int 0, .ref (h 3), .ref (h 4), .int 0, .ref (h 5), .int 0, .ref (h 6), .int 0, .ref (h 7), .int 0])), ((h 2), .inl ((cs 7), 4, .inr (.inr (.inr (.inr (fun _ => none)))))), ((h 3), .inl ((cs 9), 10, .inr (.inr (.inr (.inr (fun _ => none)))))), ((h 4), .inl ((cs 4), 100, .inr (.inr (.inr (.inr (fun _ => none)))))), ((h 5), .inl ((cs 2), 4, .inr (.inr (.inr (.inr (fun _ => none)))))), ((h 6), .inl ((cs 4), 3, .inr (.inr (.inr (.inr (fun _ => none)))))), ((h 7), .inl ((cs 0), 4, .inr (.inr (.inr (.inr fn))))), ((h 8), .inr (0, [.ref (h 102), .ref (h 103), .int 0])), ((h 9), .inl ((cs 8), 8, .inr (.inr (.inr (.inr fp))))), ((h 10), .inr (8, [.ref (h 11), .int 0, .ref (h 12), .ref (h 13), .int 0, .ref (h 14), .int 0, .ref (h 15), .int 0, .ref (h 16), .int 0])), ((h 11), .inl ((cs 7), 4, .inr (.inr (.inr (.inr (fun _ => none)))))), ((h 12), .inl ((cs 9), 10, .inr (.inr (.inr (.inr (fun _ => none)))))), ((h 13), .inl ((cs 4), 100, .inr (.inr (.inr (.inr (fun _ => none)))))), ((h 14), .inl ((cs 2), 4, .inr (.inr (.inr (.inr (fun _ => none)))))), ((h 15), .inl ((cs 4), 3, .inr (.inr (.inr (.inr (fun _ => none)))))), ((h 16), .inl ((cs 0), 4, .inr (.inr (.inr (.inr f0))))), (o, .inl (cL, 1, .inr (.inl (fun _ => 0))))] sz) := by
  refine zOfWH (cc := cL_turn) (maxL := 4) (ret := (some .int)) (by decide) rfl ?_
  intro p e s m args below meth c s₁ B hml hv
  obtain ⟨rfl, hNc, hEx, hsz, hP, hK, hD0⟩ := hv
  have hx := B.exec
  have hb := B.bytes
  have hr := B.returns
  have hts := atoms_spec (ws := (.codeWith yL_turn cL_turn 4 (some .int) [(0, 9, 12, 21)] :: zT)) B.pre
  have ht : ∀ w ∈ zT, w.before _ s = true := fun w h => hts w (List.mem_cons_of_mem _ h)
  have hown : s.vm.findClass RL = some m.cls := findClass_of_methodNamed B.named
  have hlocks := B.notSynchronized
  have hTab := vx_table (x := yL_turn) B (hts _ List.mem_cons_self)
  subst hsz
  have hD := hD0.self (sz := s.heap.size)
  generalize hAe : va_A [((h 0), .inr (11, [.ref (h 1), .ref (h 9), .int 0, .int 0, .ref (h 20), .ref (h 37), .int 0, .ref (h 38), .ref (h 42), .ref (h 43), .ref (h 44), .ref (h 45), .ref (h 46), .ref (h 47), .ref (h 48)])), ((h 1), .inr (8, [.ref (h 2), .int 0, .ref (h 3), .ref (h 4), .int 0, .ref (h 5), .int 0, .ref (h 6), .int 0, .ref (h 7), .int 0])), ((h 2), .inl ((cs 7), 4, .inr (.inr (.inr (.inr (fun _ => none)))))), ((h 3), .inl ((cs 9), 10, .inr (.inr (.inr (.inr (fun _ => none)))))), ((h 4), .inl ((cs 4), 100, .inr (.inr (.inr (.inr (fun _ => none)))))), ((h 5), .inl ((cs 2), 4, .inr (.inr (.inr (.inr (fun _ => none)))))), ((h 6), .inl ((cs 4), 3, .inr (.inr (.inr (.inr (fun _ => none)))))), ((h 7), .inl ((cs 0), 4, .inr (.inr (.inr (.inr fn))))), ((h 8), .inr (0, [.ref (h 102), .ref (h 103), .int 0])), ((h 9), .inl ((cs 8), 8, .inr (.inr (.inr (.inr fp))))), ((h 10), .inr (8, [.ref (h 11), .int 0, .ref (h 12), .ref (h 13), .int 0, .ref (h 14), .int 0, .ref (h 15), .int 0, .ref (h 16), .int 0])), ((h 11), .inl ((cs 7), 4, .inr (.inr (.inr (.inr (fun _ => none)))))), ((h 12), .inl ((cs 9), 10, .inr (.inr (.inr (.inr (fun _ => none)))))), ((h 13), .inl ((cs 4), 100, .inr (.inr (.inr (.inr (fun _ => none)))))), ((h 14), .inl ((cs 2), 4, .inr (.inr (.inr (.inr (fun _ => none)))))), ((h 15), .inl ((cs 4), 3, .inr (.inr (.inr (.inr (fun _ => none)))))), ((h 16), .inl ((cs 0), 4, .inr (.inr (.inr (.inr f0))))), (o, .inl (cL, 1, .inr (.inl (fun _ => 0))))] s.heap.size = A at hD hEx ⊢
  have hA : ∀ q : Nat, s.heap.size ≤ q → A q := fun q h => by rw [← hAe]; exact Or.inr h
  have hS : va_S A s.heap s.heap [] := va_S.rf
  have hP : va_P D vwCl [((h 0), .inr (11, [.ref (h 1), .ref (h 9), .int 0, .int 0, .ref (h 20), .ref (h 37), .int 0, .ref (h 38), .ref (h 42), .ref (h 43), .ref (h 44), .ref (h 45), .ref (h 46), .ref (h 47), .ref (h 48)])), ((h 1), .inr (8, [.ref (h 2), .int 0, .ref (h 3), .ref (h 4), .int 0, .ref (h 5), .int 0, .ref (h 6), .int 0, .ref (h 7), .int 0])), ((h 2), .inl ((cs 7), 4, .inr (.inr (.inr (.inr (fun _ => none)))))), ((h 3), .inl ((cs 9), 10, .inr (.inr (.inr (.inr (fun _ => none)))))), ((h 4), .inl ((cs 4), 100, .inr (.inr (.inr (.inr (fun _ => none)))))), ((h 5), .inl ((cs 2), 4, .inr (.inr (.inr (.inr (fun _ => none)))))), ((h 6), .inl ((cs 4), 3, .inr (.inr (.inr (.inr (fun _ => none)))))), ((h 7), .inl ((cs 0), 4, .inr (.inr (.inr (.inr fn))))), ((h 8), .inr (0, [.ref (h 102), .ref (h 103), .int 0])), ((h 9), .inl ((cs 8), 8, .inr (.inr (.inr (.inr fp))))), ((h 10), .inr (8, [.ref (h 11), .int 0, .ref (h 12), .ref (h 13), .int 0, .ref (h 14), .int 0, .ref (h 15), .int 0, .ref (h 16), .int 0])), ((h 11), .inl ((cs 7), 4, .inr (.inr (.inr (.inr (fun _ => none)))))), ((h 12), .inl ((cs 9), 10, .inr (.inr (.inr (.inr (fun _ => none)))))), ((h 13), .inl ((cs 4), 100, .inr (.inr (.inr (.inr (fun _ => none)))))), ((h 14), .inl ((cs 2), 4, .inr (.inr (.inr (.inr (fun _ => none)))))), ((h 15), .inl ((cs 4), 3, .inr (.inr (.inr (.inr (fun _ => none)))))), ((h 16), .inl ((cs 0), 4, .inr (.inr (.inr (.inr f0))))), (o, .inl (cL, 1, .inr (.inl (fun _ => 0))))] s.heap := hP
  have hl := lv_entry ([.ref (h 0), .int p0, .ref o]) (n := 4) (Nat.le_of_ble_eq_true rfl)
  rw [lg_entry_eq]
  generalize (lg_sl ([.ref (h 0), .int p0, .ref o]) ++ List.replicate (4 - (lg_sl ([.ref (h 0), .int p0, .ref o])).length) Slot.unset).toArray = ls at hl ⊢
  have hl : lv_has ls 4 [(0, .ref (h 0)), (1, .int p0), (2, .ref o)] := hl
  skip
  refine lv_aload_n hx hb dL_turn_0 rfl (lv_at hl 2 rfl) ?_
  refine lv_iconst (v := 0) hx hb dL_turn_1 (by decide) ?_
  refine lv_aload_n hx hb dL_turn_2 rfl (lv_at hl 0 rfl) ?_
  refine lv_iload_n hx hb dL_turn_3 rfl (lv_at hl 1 rfl) ?_
  have hPc := hP.sub (ws' := [((h 0), .inr (11, [.ref (h 1), .ref (h 9), .int 0, .int 0, .ref (h 20), .ref (h 37), .int 0, .ref (h 38), .ref (h 42), .ref (h 43), .ref (h 44), .ref (h 45), .ref (h 46), .ref (h 47), .ref (h 48)])), ((h 1), .inr (8, [.ref (h 2), .int 0, .ref (h 3), .ref (h 4), .int 0, .ref (h 5), .int 0, .ref (h 6), .int 0, .ref (h 7), .int 0])), ((h 2), .inl ((cs 7), 4, .inr (.inr (.inr (.inr (fun _ => none)))))), ((h 3), .inl ((cs 9), 10, .inr (.inr (.inr (.inr (fun _ => none)))))), ((h 4), .inl ((cs 4), 100, .inr (.inr (.inr (.inr (fun _ => none)))))), ((h 5), .inl ((cs 2), 4, .inr (.inr (.inr (.inr (fun _ => none)))))), ((h 6), .inl ((cs 4), 3, .inr (.inr (.inr (.inr (fun _ => none)))))), ((h 7), .inl ((cs 0), 4, .inr (.inr (.inr (.inr fn))))), ((h 8), .inr (0, [.ref (h 102), .ref (h 103), .int 0])), ((h 9), .inl ((cs 8), 8, .inr (.inr (.inr (.inr fp))))), ((h 10), .inr (8, [.ref (h 11), .int 0, .ref (h 12), .ref (h 13), .int 0, .ref (h 14), .int 0, .ref (h 15), .int 0, .ref (h 16), .int 0])), ((h 11), .inl ((cs 7), 4, .inr (.inr (.inr (.inr (fun _ => none)))))), ((h 12), .inl ((cs 9), 10, .inr (.inr (.inr (.inr (fun _ => none)))))), ((h 13), .inl ((cs 4), 100, .inr (.inr (.inr (.inr (fun _ => none)))))), ((h 14), .inl ((cs 2), 4, .inr (.inr (.inr (.inr (fun _ => none)))))), ((h 15), .inl ((cs 4), 3, .inr (.inr (.inr (.inr (fun _ => none)))))), ((h 16), .inl ((cs 0), 4, .inr (.inr (.inr (.inr f0)))))]) [0, 1, 2, 3, 4, 5, 6, 7, 8, 9, 10, 11, 12, 13, 14, 15, 16] rfl
  have hDc := hD.sub (ws' := [((h 0), .inr (11, [.ref (h 1), .ref (h 9), .int 0, .int 0, .ref (h 20), .ref (h 37), .int 0, .ref (h 38), .ref (h 42), .ref (h 43), .ref (h 44), .ref (h 45), .ref (h 46), .ref (h 47), .ref (h 48)])), ((h 1), .inr (8, [.ref (h 2), .int 0, .ref (h 3), .ref (h 4), .int 0, .ref (h 5), .int 0, .ref (h 6), .int 0, .ref (h 7), .int 0])), ((h 2), .inl ((cs 7), 4, .inr (.inr (.inr (.inr (fun _ => none)))))), ((h 3), .inl ((cs 9), 10, .inr (.inr (.inr (.inr (fun _ => none)))))), ((h 4), .inl ((cs 4), 100, .inr (.inr (.inr (.inr (fun _ => none)))))), ((h 5), .inl ((cs 2), 4, .inr (.inr (.inr (.inr (fun _ => none)))))), ((h 6), .inl ((cs 4), 3, .inr (.inr (.inr (.inr (fun _ => none)))))), ((h 7), .inl ((cs 0), 4, .inr (.inr (.inr (.inr fn))))), ((h 8), .inr (0, [.ref (h 102), .ref (h 103), .int 0])), ((h 9), .inl ((cs 8), 8, .inr (.inr (.inr (.inr fp))))), ((h 10), .inr (8, [.ref (h 11), .int 0, .ref (h 12), .ref (h 13), .int 0, .ref (h 14), .int 0, .ref (h 15), .int 0, .ref (h 16), .int 0])), ((h 11), .inl ((cs 7), 4, .inr (.inr (.inr (.inr (fun _ => none)))))), ((h 12), .inl ((cs 9), 10, .inr (.inr (.inr (.inr (fun _ => none)))))), ((h 13), .inl ((cs 4), 100, .inr (.inr (.inr (.inr (fun _ => none)))))), ((h 14), .inl ((cs 2), 4, .inr (.inr (.inr (.inr (fun _ => none)))))), ((h 15), .inl ((cs 4), 3, .inr (.inr (.inr (.inr (fun _ => none)))))), ((h 16), .inl ((cs 0), 4, .inr (.inr (.inr (.inr f0)))))]) [0, 1, 2, 3, 4, 5, 6, 7, 8, 9, 10, 11, 12, 13, 14, 15, 16] (by decide) rfl
  have hKc := hK.sub (tys' := [((cs 7), .object RX7), ((cs 9), .object RX9), ((cs 4), .object RX4), ((cs 2), .object RX2), ((cs 0), .object RX0), ((cs 8), .object RX8)]) [0, 1, 2, 3, 4, 5] rfl
  have hFc := va_free (wc := [((h 0), .inr (11, [.ref (h 1), .ref (h 9), .int 0, .int 0, .ref (h 20), .ref (h 37), .int 0, .ref (h 38), .ref (h 42), .ref (h 43), .ref (h 44), .ref (h 45), .ref (h 46), .ref (h 47), .ref (h 48)])), ((h 1), .inr (8, [.ref (h 2), .int 0, .ref (h 3), .ref (h 4), .int 0, .ref (h 5), .int 0, .ref (h 6), .int 0, .ref (h 7), .int 0])), ((h 2), .inl ((cs 7), 4, .inr (.inr (.inr (.inr (fun _ => none)))))), ((h 3), .inl ((cs 9), 10, .inr (.inr (.inr (.inr (fun _ => none)))))), ((h 4), .inl ((cs 4), 100, .inr (.inr (.inr (.inr (fun _ => none)))))), ((h 5), .inl ((cs 2), 4, .inr (.inr (.inr (.inr (fun _ => none)))))), ((h 6), .inl ((cs 4), 3, .inr (.inr (.inr (.inr (fun _ => none)))))), ((h 7), .inl ((cs 0), 4, .inr (.inr (.inr (.inr fn))))), ((h 8), .inr (0, [.ref (h 102), .ref (h 103), .int 0])), ((h 9), .inl ((cs 8), 8, .inr (.inr (.inr (.inr fp))))), ((h 10), .inr (8, [.ref (h 11), .int 0, .ref (h 12), .ref (h 13), .int 0, .ref (h 14), .int 0, .ref (h 15), .int 0, .ref (h 16), .int 0])), ((h 11), .inl ((cs 7), 4, .inr (.inr (.inr (.inr (fun _ => none)))))), ((h 12), .inl ((cs 9), 10, .inr (.inr (.inr (.inr (fun _ => none)))))), ((h 13), .inl ((cs 4), 100, .inr (.inr (.inr (.inr (fun _ => none)))))), ((h 14), .inl ((cs 2), 4, .inr (.inr (.inr (.inr (fun _ => none)))))), ((h 15), .inl ((cs 4), 3, .inr (.inr (.inr (.inr (fun _ => none)))))), ((h 16), .inl ((cs 0), 4, .inr (.inr (.inr (.inr f0)))))]) hD hS hA [0, 1, 2, 3, 4, 5, 6, 7, 8, 9, 10, 11, 12, 13, 14, 15, 16] rfl
  refine vx_calli (vx_runV (As := [.int p0]) (rest := [.int 0, .ref o]) ⟨hx, hb, hml, hown, ht⟩ (k_X11_turn l hl0 _ D h cs p0 fn hn fp f0 hp) (cwV 1 ht (zG_V zw_660 zw_661 zw_662 zw_404 zw_663) rfl rfl rfl (by decide +kernel) ⟨Nat.le_of_ble_eq_true rfl, Nat.le_of_ble_eq_true rfl⟩) (zW_V (va_recv hK hP (ci := 11) (q0 := 0) rfl rfl) hEx hS hFc hPc hKc hDc) rfl rfl hl.1 rfl (lv_room (Nat.le_of_ble_eq_true rfl)) dL_turn_4 ⟨Nat.le_of_ble_eq_true rfl, Nat.le_of_ble_eq_true rfl⟩) hS (fun q _ h => hFc q h) hFc (fun q _ h => hFc q h) (fun E ce q9 uu t H1 locs1 ht0 hvm hpx hB hz1 hk1 hS hcell hv hcl => ?_) (fun r_1 u_1 t H1 locs ht0 hvm hw_1 hB hz1 hk1 hS => ?_)
  · skip
    obtain ⟨rfl, hb9⟩ := hB
    obtain ⟨hP, hD⟩ := va_join (wr := [(o, .inl (cL, 1, .inr (.inl (fun _ => 0))))]) (w1 := []) hP hD [0, 1, 2, 3, 4, 5, 6, 7, 8, 9, 10, 11, 12, 13, 14, 15, 16] [17] rfl rfl (by decide) (by decide) hk1 hFc zP_nil zD_nil
    refine vx_catch (name := "java/lang/IndexOutOfBoundsException") hown [] ⟨0, 9, 12, 21⟩ [] hTab ((fun _ h => nomatch h)) (by decide) (by decide) (ht _ zw_597) (va_Nw.use rfl (hEx.1.2.2.2.1 "java/lang/IndexOutOfBoundsException" (by decide))) hcell hv hcl ?_
    generalize H1 = H at hP hS ⊢
    have hP : va_P D vwCl [(o, .inl (cL, 1, .inr (.inl (fun _ => 0))))] H := hP
    have hD : va_D A [(o, .inl (cL, 1, .inr (.inl (fun _ => 0))))] := hD
    refine W.widen (k := 4) (n := 33) (Nat.le_of_ble_eq_true rfl) (Nat.le_of_ble_eq_true rfl) ?_
    refine lv_astore_n (lv' := [(3, .ref q9), (0, .ref (h 0)), (1, .int p0), (2, .ref o)]) hx hb dL_turn_12 rfl hl (by decide) rfl (fun ls hl => ?_)
    refine lv_iconst (v := 1) hx hb dL_turn_13 (by decide) ?_
    have hP9 := hP.sub (ws' := [(o, .inl (cL, 1, .inr (.inl (fun _ => 0))))]) [0] rfl
    have hD9 := hD.sub (ws' := [(o, .inl (cL, 1, .inr (.inl (fun _ => 0))))]) [0] (by decide) rfl
    have hK9 := hK.sub (tys' := []) [] rfl
    refine W.widen (k := 4) (n := 33) (Nat.le_of_ble_eq_true rfl) (Nat.le_of_ble_eq_true rfl) ?_
    exact W.iret (v := 1) hx hb hr (fun t ht0 hW => ⟨⟨1, 0, rfl, hb9, (fun _ => 0), rfl, zE_of hP9 hK9 hD9 ht0 hW⟩, hS.F ht0⟩) hS.2.2 dL_turn_14
  obtain ⟨hP1, hK1, hD1⟩ := hB
  rw [ht0] at hP1
  have hK1 := va_K.moved hvm.symm hK1
  obtain ⟨hP, hD⟩ := va_join (wr := [(o, .inl (cL, 1, .inr (.inl (fun _ => 0))))]) (w1 := []) hP hD [0, 1, 2, 3, 4, 5, 6, 7, 8, 9, 10, 11, 12, 13, 14, 15, 16] [17] rfl rfl (by decide) (by decide) hk1 hFc hP1 hD1
  generalize H1 = H at hP hS ⊢
  have hP : va_P D vwCl [(o, .inl (cL, 1, .inr (.inl (fun _ => 0))))] H := hP
  have hD : va_D A [(o, .inl (cL, 1, .inr (.inl (fun _ => 0))))] := hD
  refine W.widen (k := 4) (n := 33) (Nat.le_of_ble_eq_true rfl) (Nat.le_of_ble_eq_true rfl) ?_
  refine lv_i2l (v := (r_1).toInt64) hx hb dL_turn_7 rfl ?_
  refine va_last hx hb hK hP hD hS 0 6 rfl rfl (vp_in_iff.mpr (by decide)) dL_turn_8 (fun H locs hP hD hS => ?_)
  have hP : va_P D vwCl [(o, .inl (cL, 1, .inr (.inl (vp_updL (fun _ => 0) 0 ((r_1).toInt64)))))] H := hP
  have hD : va_D A [(o, .inl (cL, 1, .inr (.inl (vp_updL (fun _ => 0) 0 ((r_1).toInt64)))))] := hD
  refine lv_goto (tgt := 15) hx hb dL_turn_9 (by decide) ?_
  refine lv_iconst (v := 0) hx hb dL_turn_15 (by decide) ?_
  have hP9 := hP.sub (ws' := [(o, .inl (cL, 1, .inr (.inl (vp_updL (fun _ => 0) 0 ((r_1).toInt64)))))]) [0] rfl
  have hD9 := hD.sub (ws' := [(o, .inl (cL, 1, .inr (.inl (vp_updL (fun _ => 0) 0 ((r_1).toInt64)))))]) [0] (by decide) rfl
  have hK9 := hK.sub (tys' := []) [] rfl
  refine W.widen (k := 4) (n := 33) (Nat.le_of_ble_eq_true rfl) (Nat.le_of_ble_eq_true rfl) ?_
  exact W.iret (v := 0) hx hb hr (fun t ht0 hW => ⟨⟨0, r_1, rfl, hw_1, (vp_updL (fun _ => 0) 0 ((r_1).toInt64)), (by simp [vp_updL]), zE_of hP9 hK9 hD9 ht0 hW⟩, hS.F ht0⟩) hS.2.2 dL_turn_16
set_option maxHeartbeats 4000000 in
set_option maxRecDepth 100000 in
theorem k_L_join (l : Launch) (hl0 : l.stackTraces = false) (sz : Nat) (D : va_G) (h cs : Nat → Nat) (p0 p1 p2 : Int32) (fn : Nat → Option Nat) (hn : ∀ k : Nat, k < 4 → fn k = some (h 8)) (o : Nat) (cL : ClassId) : Met l yL_join (.codeWith yL_join cL_join 6 (some .int) [(0, 12, 15, 21), (0, 12, 19, 15), (0, 12, 23, 13)] :: zT) ({ frames := 8, cells := 4, slots := 24, locals := 136 }) (va_Pc [.ref (h 0), .int p0, .int p1, .int p2, .ref o] (zY D [((h 0), .inr (11, [.ref (h 1), .ref (h 9), .int 0, .int 0, .ref (h 20), .ref (h 37), .int 0, .ref (h 38), .ref (h 42), .ref (h 43), .ref (h 44), .ref (h 45), .ref (h 46), .ref (h 47), .ref (h 48)])), ((h 1), .inr (8, [.ref (h 2), .int 0, .ref (h 3), .ref (h 4), .int 0, .ref (h 5), .int 0, .ref (h 6), .int 0, .ref (h 7), .int 0])), ((h 7), .inl ((cs 0), 4, .inr (.inr (.inr (.inr fn))))), ((h 8), .inr (0, [.ref (h 102), .ref (h 103), .int 0])), (o, .inl (cL, 1, .inr (.inl (fun _ => 0))))] [((cs 0), .object RX0), (cL, .long)] sz)) (va_Qi (fun (r u : Int32) => zS_join p0 p1 p2 r u) (fun u t => ∃ g2 : Nat → Int64, g2 0 = u.toInt64 ∧ zE D [(o, .inl (cL, 1, .inr (.inl g2)))] [] (va_A [((h 0), .inr (11, [.ref (h 1), .ref (h 9), .int 0, .int 0, .ref (h 20), .ref (h 37), .int 0, .ref (h 38), .ref (h 42), .ref (h 43), .ref (h 44), .ref (h 45), .ref (h 46), .ref (h 47), .ref (h 48)])), ((h 1), .inr (8, [.ref (h 2), .int 0, .ref (h 3), .ref (h 4), .int 0, .ref (h 5), .int 0, .ref (h 6), .int 0, .ref (h 7), .int 0])), ((h 7), .inl ((cs 0), 4, .inr (.inr (.inr (.inr fn))))), ((h 8), .inr (0, [.ref (h 102), .ref (h 103), .int 0])), (o, .inl (cL, 1, .inr (.inl (fun _ => 0))))] sz) t) (va_A [((h 0), .inr (11, [.ref (h 1), .ref (h 9), .int 0, .int 0, .ref (h 20), .ref (h 37), .int 0, .ref (h 38), .ref (h 42), .ref (h 43), .ref (h 44), .ref (h 45), .ref (h 46), .ref (h 47), .ref (h 48)])), ((h 1), .inr (8, [.ref (h 2), .int 0, .ref (h 3), .ref (h 4), .int 0, .ref (h 5), .int 0, .ref (h 6), .int 0, .ref (h 7), .int 0])), ((h 7), .inl ((cs 0), 4, .inr (.inr (.inr (.inr fn))))), ((h 8), .inr (0, [.ref (h 102), .ref (h 103), .int 0])), (o, .inl (cL, 1, .inr (.inl (fun _ => 0))))] sz)) 4 24 (va_A [((h 0), .inr (11, [.ref (h 1), .ref (h 9), .int 0, .int 0, .ref (h 20), .ref (h 37), .int 0, .ref (h 38), .ref (h 42), .ref (h 43), .ref (h 44), .ref (h 45), .ref (h 46), .ref (h 47), .ref (h 48)])), ((h 1), .inr (8, [.ref (h 2), .int 0, .ref (h 3), .ref (h 4), .int 0, .ref (h 5), .int 0, .ref (h 6), .int 0, .ref (h 7), .int 0])), ((h 7), .inl ((cs 0), 4, .inr (.inr (.inr (.inr fn))))), ((h 8), .inr (0, [.ref (h 102), .ref (h 103), .int 0])), (o, .inl (cL, 1, .inr (.inl (fun _ => 0))))] sz) := by
  refine zOfWH (cc := cL_join) (maxL := 6) (ret := (some .int)) (by decide) rfl ?_
  intro p e s m args below meth c s₁ B hml hv
  obtain ⟨rfl, hNc, hEx, hsz, hP, hK, hD0⟩ := hv
  have hx := B.exec
  have hb := B.bytes
  have hr := B.returns
  have hts := atoms_spec (ws := (.codeWith yL_join cL_join 6 (some .int) [(0, 12, 15, 21), (0, 12, 19, 15), (0, 12, 23, 13)] :: zT)) B.pre
  have ht : ∀ w ∈ zT, w.before _ s = true := fun w h => hts w (List.mem_cons_of_mem _ h)
  have hown : s.vm.findClass RL = some m.cls := findClass_of_methodNamed B.named
  have hlocks := B.notSynchronized
  have hTab := vx_table (x := yL_join) B (hts _ List.mem_cons_self)
  subst hsz
  have hD := hD0.self (sz := s.heap.size)
  generalize hAe : va_A [((h 0), .inr (11, [.ref (h 1), .ref (h 9), .int 0, .int 0, .ref (h 20), .ref (h 37), .int 0, .ref (h 38), .ref (h 42), .ref (h 43), .ref (h 44), .ref (h 45), .ref (h 46), .ref (h 47), .ref (h 48)])), ((h 1), .inr (8, [.ref (h 2), .int 0, .ref (h 3), .ref (h 4), .int 0, .ref (h 5), .int 0, .ref (h 6), .int 0, .ref (h 7), .int 0])), ((h 7), .inl ((cs 0), 4, .inr (.inr (.inr (.inr fn))))), ((h 8), .inr (0, [.ref (h 102), .ref (h 103), .int 0])), (o, .inl (cL, 1, .inr (.inl (fun _ => 0))))] s.heap.size = A at hD hEx ⊢
  have hA : ∀ q : Nat, s.heap.size ≤ q → A q := fun q h => by rw [← hAe]; exact Or.inr h
  have hS : va_S A s.heap s.heap [] := va_S.rf
  have hP : va_P D vwCl [((h 0), .inr (11, [.ref (h 1), .ref (h 9), .int 0, .int 0, .ref (h 20), .ref (h 37), .int 0, .ref (h 38), .ref (h 42), .ref (h 43), .ref (h 44), .ref (h 45), .ref (h 46), .ref (h 47), .ref (h 48)])), ((h 1), .inr (8, [.ref (h 2), .int 0, .ref (h 3), .ref (h 4), .int 0, .ref (h 5), .int 0, .ref (h 6), .int 0, .ref (h 7), .int 0])), ((h 7), .inl ((cs 0), 4, .inr (.inr (.inr (.inr fn))))), ((h 8), .inr (0, [.ref (h 102), .ref (h 103), .int 0])), (o, .inl (cL, 1, .inr (.inl (fun _ => 0))))] s.heap := hP
  have hl := lv_entry ([.ref (h 0), .int p0, .int p1, .int p2, .ref o]) (n := 6) (Nat.le_of_ble_eq_true rfl)
  rw [lg_entry_eq]
  generalize (lg_sl ([.ref (h 0), .int p0, .int p1, .int p2, .ref o]) ++ List.replicate (6 - (lg_sl ([.ref (h 0), .int p0, .int p1, .int p2, .ref o])).length) Slot.unset).toArray = ls at hl ⊢
  have hl : lv_has ls 6 [(0, .ref (h 0)), (1, .int p0), (2, .int p1), (3, .int p2), (4, .ref o)] := hl
  skip
  refine lv_aload hx hb dL_join_0 (lv_at hl 4 rfl) ?_
  refine lv_iconst (v := 0) hx hb dL_join_2 (by decide) ?_
  refine lv_aload_n hx hb dL_join_3 rfl (lv_at hl 0 rfl) ?_
  refine lv_iload_n hx hb dL_join_4 rfl (lv_at hl 1 rfl) ?_
  refine lv_iload_n hx hb dL_join_5 rfl (lv_at hl 2 rfl) ?_
  refine lv_iload_n hx hb dL_join_6 rfl (lv_at hl 3 rfl) ?_
  have hPc := hP.sub (ws' := [((h 0), .inr (11, [.ref (h 1), .ref (h 9), .int 0, .int 0, .ref (h 20), .ref (h 37), .int 0, .ref (h 38), .ref (h 42), .ref (h 43), .ref (h 44), .ref (h 45), .ref (h 46), .ref (h 47), .ref (h 48)])), ((h 1), .inr (8, [.ref (h 2), .int 0, .ref (h 3), .ref (h 4), .int 0, .ref (h 5), .int 0, .ref (h 6), .int 0, .ref (h 7), .int 0])), ((h 7), .inl ((cs 0), 4, .inr (.inr (.inr (.inr fn))))), ((h 8), .inr (0, [.ref (h 102), .ref (h 103), .int 0]))]) [0, 1, 2, 3] rfl
  have hDc := hD.sub (ws' := [((h 0), .inr (11, [.ref (h 1), .ref (h 9), .int 0, .int 0, .ref (h 20), .ref (h 37), .int 0, .ref (h 38), .ref (h 42), .ref (h 43), .ref (h 44), .ref (h 45), .ref (h 46), .ref (h 47), .ref (h 48)])), ((h 1), .inr (8, [.ref (h 2), .int 0, .ref (h 3), .ref (h 4), .int 0, .ref (h 5), .int 0, .ref (h 6), .int 0, .ref (h 7), .int 0])), ((h 7), .inl ((cs 0), 4, .inr (.inr (.inr (.inr fn))))), ((h 8), .inr (0, [.ref (h 102), .ref (h 103), .int 0]))]) [0, 1, 2, 3] (by decide) rfl
  have hKc := hK.sub (tys' := [((cs 0), .object RX0)]) [0] rfl
  have hFc := va_free (wc := [((h 0), .inr (11, [.ref (h 1), .ref (h 9), .int 0, .int 0, .ref (h 20), .ref (h 37), .int 0, .ref (h 38), .ref (h 42), .ref (h 43), .ref (h 44), .ref (h 45), .ref (h 46), .ref (h 47), .ref (h 48)])), ((h 1), .inr (8, [.ref (h 2), .int 0, .ref (h 3), .ref (h 4), .int 0, .ref (h 5), .int 0, .ref (h 6), .int 0, .ref (h 7), .int 0])), ((h 7), .inl ((cs 0), 4, .inr (.inr (.inr (.inr fn))))), ((h 8), .inr (0, [.ref (h 102), .ref (h 103), .int 0]))]) hD hS hA [0, 1, 2, 3] rfl
  refine vx_calli (vx_runV (As := [.int p0, .int p1, .int p2]) (rest := [.int 0, .ref o]) ⟨hx, hb, hml, hown, ht⟩ (k_X11_join l hl0 _ D h cs p0 p1 p2 fn hn) (cwV 3 ht (zG_V zw_664 zw_665 zw_666 zw_404 zw_667) rfl rfl rfl (by decide +kernel) ⟨Nat.le_of_ble_eq_true rfl, Nat.le_of_ble_eq_true rfl⟩) (zW_V (va_recv hK hP (ci := 11) (q0 := 0) rfl rfl) hEx hS hFc hPc hKc hDc) rfl rfl hl.1 rfl (lv_room (Nat.le_of_ble_eq_true rfl)) dL_join_7 ⟨Nat.le_of_ble_eq_true rfl, Nat.le_of_ble_eq_true rfl⟩) hS (fun q _ h => hFc q h) hFc (fun q _ h => hFc q h) (fun E ce q9 uu t H1 locs1 ht0 hvm hpx hB hz1 hk1 hS hcell hv hcl => ?_) (fun r_1 u_1 t H1 locs ht0 hvm hw_1 hB hz1 hk1 hS => ?_)
  · skip
    rcases hB with ⟨rfl, hb9⟩ | ⟨rfl, hb9⟩
    · skip
      obtain ⟨hP, hD⟩ := va_join (wr := [(o, .inl (cL, 1, .inr (.inl (fun _ => 0))))]) (w1 := []) hP hD [0, 1, 2, 3] [4] rfl rfl (by decide) (by decide) hk1 hFc zP_nil zD_nil
      refine vx_catch (name := "java/lang/IndexOutOfBoundsException") hown [] ⟨0, 12, 15, 21⟩ [⟨0, 12, 19, 15⟩, ⟨0, 12, 23, 13⟩] hTab ((fun _ h => nomatch h)) (by decide) (by decide) (ht _ zw_597) (va_Nw.use rfl (hEx.1.2.2.2.1 "java/lang/IndexOutOfBoundsException" (by decide))) hcell hv hcl ?_
      generalize H1 = H at hP hS ⊢
      have hP : va_P D vwCl [(o, .inl (cL, 1, .inr (.inl (fun _ => 0))))] H := hP
      have hD : va_D A [(o, .inl (cL, 1, .inr (.inl (fun _ => 0))))] := hD
      refine W.widen (k := 4) (n := 24) (Nat.le_of_ble_eq_true rfl) (Nat.le_of_ble_eq_true rfl) ?_
      refine lv_astore (lv' := [(5, .ref q9), (0, .ref (h 0)), (1, .int p0), (2, .int p1), (3, .int p2), (4, .ref o)]) hx hb dL_join_15 hl (by decide) rfl (fun ls hl => ?_)
      refine lv_iconst (v := 1) hx hb dL_join_17 (by decide) ?_
      have hP9 := hP.sub (ws' := [(o, .inl (cL, 1, .inr (.inl (fun _ => 0))))]) [0] rfl
      have hD9 := hD.sub (ws' := [(o, .inl (cL, 1, .inr (.inl (fun _ => 0))))]) [0] (by decide) rfl
      have hK9 := hK.sub (tys' := []) [] rfl
      refine W.widen (k := 4) (n := 24) (Nat.le_of_ble_eq_true rfl) (Nat.le_of_ble_eq_true rfl) ?_
      exact W.iret (v := 1) hx hb hr (fun t ht0 hW => ⟨⟨1, 0, rfl, hb9, (fun _ => 0), rfl, zE_of hP9 hK9 hD9 ht0 hW⟩, hS.F ht0⟩) hS.2.2 dL_join_18
    · skip
      obtain ⟨hP, hD⟩ := va_join (wr := [(o, .inl (cL, 1, .inr (.inl (fun _ => 0))))]) (w1 := []) hP hD [0, 1, 2, 3] [4] rfl rfl (by decide) (by decide) hk1 hFc zP_nil zD_nil
      refine vx_catch (name := "java/lang/IllegalStateException") hown [⟨0, 12, 15, 21⟩] ⟨0, 12, 19, 15⟩ [⟨0, 12, 23, 13⟩] hTab (List.forall_mem_cons.mpr ⟨.inr ⟨by decide, "java/lang/IndexOutOfBoundsException", ht _ zw_597, hNc ("java/lang/IllegalStateException", "java/lang/IndexOutOfBoundsException") (by decide)⟩, (fun _ h => nomatch h)⟩) (by decide) (by decide) (ht _ zw_610) (va_Nw.use rfl (hEx.1.2.2.2.1 "java/lang/IllegalStateException" (by decide))) hcell hv hcl ?_
      generalize H1 = H at hP hS ⊢
      have hP : va_P D vwCl [(o, .inl (cL, 1, .inr (.inl (fun _ => 0))))] H := hP
      have hD : va_D A [(o, .inl (cL, 1, .inr (.inl (fun _ => 0))))] := hD
      refine W.widen (k := 4) (n := 24) (Nat.le_of_ble_eq_true rfl) (Nat.le_of_ble_eq_true rfl) ?_
      refine lv_astore (lv' := [(5, .ref q9), (0, .ref (h 0)), (1, .int p0), (2, .int p1), (3, .int p2), (4, .ref o)]) hx hb dL_join_19 hl (by decide) rfl (fun ls hl => ?_)
      refine lv_iconst (v := 2) hx hb dL_join_21 (by decide) ?_
      have hP9 := hP.sub (ws' := [(o, .inl (cL, 1, .inr (.inl (fun _ => 0))))]) [0] rfl
      have hD9 := hD.sub (ws' := [(o, .inl (cL, 1, .inr (.inl (fun _ => 0))))]) [0] (by decide) rfl
      have hK9 := hK.sub (tys' := []) [] rfl
      refine W.widen (k := 4) (n := 24) (Nat.le_of_ble_eq_true rfl) (Nat.le_of_ble_eq_true rfl) ?_
      exact W.iret (v := 2) hx hb hr (fun t ht0 hW => ⟨⟨2, 0, rfl, hb9, (fun _ => 0), rfl, zE_of hP9 hK9 hD9 ht0 hW⟩, hS.F ht0⟩) hS.2.2 dL_join_22
  obtain ⟨hP1, hK1, hD1⟩ := hB
  rw [ht0] at hP1
  have hK1 := va_K.moved hvm.symm hK1
  obtain ⟨hP, hD⟩ := va_join (wr := [(o, .inl (cL, 1, .inr (.inl (fun _ => 0))))]) (w1 := []) hP hD [0, 1, 2, 3] [4] rfl rfl (by decide) (by decide) hk1 hFc hP1 hD1
  generalize H1 = H at hP hS ⊢
  have hP : va_P D vwCl [(o, .inl (cL, 1, .inr (.inl (fun _ => 0))))] H := hP
  have hD : va_D A [(o, .inl (cL, 1, .inr (.inl (fun _ => 0))))] := hD
  refine W.widen (k := 4) (n := 24) (Nat.le_of_ble_eq_true rfl) (Nat.le_of_ble_eq_true rfl) ?_
  exfalso
  unfold zS_join at hw_1
  rcases hw_1 with ⟨h9, -⟩ | ⟨h9, -⟩
  · exact absurd h9 (by decide)
  · exact absurd h9 (by decide)
set_option maxHeartbeats 4000000 in
set_option maxRecDepth 100000 in
theorem k_L_cut (l : Launch) (hl0 : l.stackTraces = false) (sz : Nat) (D : va_G) (h cs : Nat → Nat) (p0 p1 p2 p3 : Int32) (fn : Nat → Option Nat) (hn : ∀ k : Nat, k < 4 → fn k = some (h 8)) (o : Nat) (cL : ClassId) : Met l yL_cut (.codeWith yL_cut cL_cut 7 (some .int) [(0, 14, 17, 21), (0, 14, 21, 13)] :: zT) ({ frames := 8, cells := 2, slots := 12, locals := 135 }) (va_Pc [.ref (h 0), .int p0, .int p1, .int p2, .int p3, .ref o] (zY D [((h 0), .inr (11, [.ref (h 1), .ref (h 9), .int 0, .int 0, .ref (h 20), .ref (h 37), .int 0, .ref (h 38), .ref (h 42), .ref (h 43), .ref (h 44), .ref (h 45), .ref (h 46), .ref (h 47), .ref (h 48)])), ((h 1), .inr (8, [.ref (h 2), .int 0, .ref (h 3), .ref (h 4), .int 0, .ref (h 5), .int 0, .ref (h 6), .int 0, .ref (h 7), .int 0])), ((h 7), .inl ((cs 0), 4, .inr (.inr (.inr (.inr fn))))), ((h 8), .inr (0, [.ref (h 102), .ref (h 103), .int 0])), (o, .inl (cL, 1, .inr (.inl (fun _ => 0))))] [((cs 0), .object RX0), (cL, .long)] sz)) (va_Qi (fun (r u : Int32) => zS_cut p0 p1 p2 p3 r u) (fun u t => ∃ g2 : Nat → Int64, g2 0 = u.toInt64 ∧ zE D [(o, .inl (cL, 1, .inr (.inl g2)))] [] (va_A [((h 0), .inr (11, [.ref (h 1), .ref (h 9), .int 0, .int 0, .ref (h 20), .ref (h 37), .int 0, .ref (h 38), .ref (h 42), .ref (h 43), .ref (h 44), .ref (h 45), .ref (h 46), .ref (h 47), .ref (h 48)])), ((h 1), .inr (8, [.ref (h 2), .int 0, .ref (h 3), .ref (h 4), .int 0, .ref (h 5), .int 0, .ref (h 6), .int 0, .ref (h 7), .int 0])), ((h 7), .inl ((cs 0), 4, .inr (.inr (.inr (.inr fn))))), ((h 8), .inr (0, [.ref (h 102), .ref (h 103), .int 0])), (o, .inl (cL, 1, .inr (.inl (fun _ => 0))))] sz) t) (va_A [((h 0), .inr (11, [.ref (h 1), .ref (h 9), .int 0, .int 0, .ref (h 20), .ref (h 37), .int 0, .ref (h 38), .ref (h 42), .ref (h 43), .ref (h 44), .ref (h 45), .ref (h 46), .ref (h 47), .ref (h 48)])), ((h 1), .inr (8, [.ref (h 2), .int 0, .ref (h 3), .ref (h 4), .int 0, .ref (h 5), .int 0, .ref (h 6), .int 0, .ref (h 7), .int 0])), ((h 7), .inl ((cs 0), 4, .inr (.inr (.inr (.inr fn))))), ((h 8), .inr (0, [.ref (h 102), .ref (h 103), .int 0])), (o, .inl (cL, 1, .inr (.inl (fun _ => 0))))] sz)) 2 12 (va_A [((h 0), .inr (11, [.ref (h 1), .ref (h 9), .int 0, .int 0, .ref (h 20), .ref (h 37), .int 0, .ref (h 38), .ref (h 42), .ref (h 43), .ref (h 44), .ref (h 45), .ref (h 46), .ref (h 47), .ref (h 48)])), ((h 1), .inr (8, [.ref (h 2), .int 0, .ref (h 3), .ref (h 4), .int 0, .ref (h 5), .int 0, .ref (h 6), .int 0, .ref (h 7), .int 0])), ((h 7), .inl ((cs 0), 4, .inr (.inr (.inr (.inr fn))))), ((h 8), .inr (0, [.ref (h 102), .ref (h 103), .int 0])), (o, .inl (cL, 1, .inr (.inl (fun _ => 0))))] sz) := by
  refine zOfWH (cc := cL_cut) (maxL := 7) (ret := (some .int)) (by decide) rfl ?_
  intro p e s m args below meth c s₁ B hml hv
  obtain ⟨rfl, hNc, hEx, hsz, hP, hK, hD0⟩ := hv
  have hx := B.exec
  have hb := B.bytes
  have hr := B.returns
  have hts := atoms_spec (ws := (.codeWith yL_cut cL_cut 7 (some .int) [(0, 14, 17, 21), (0, 14, 21, 13)] :: zT)) B.pre
  have ht : ∀ w ∈ zT, w.before _ s = true := fun w h => hts w (List.mem_cons_of_mem _ h)
  have hown : s.vm.findClass RL = some m.cls := findClass_of_methodNamed B.named
  have hlocks := B.notSynchronized
  have hTab := vx_table (x := yL_cut) B (hts _ List.mem_cons_self)
  subst hsz
  have hD := hD0.self (sz := s.heap.size)
  generalize hAe : va_A [((h 0), .inr (11, [.ref (h 1), .ref (h 9), .int 0, .int 0, .ref (h 20), .ref (h 37), .int 0, .ref (h 38), .ref (h 42), .ref (h 43), .ref (h 44), .ref (h 45), .ref (h 46), .ref (h 47), .ref (h 48)])), ((h 1), .inr (8, [.ref (h 2), .int 0, .ref (h 3), .ref (h 4), .int 0, .ref (h 5), .int 0, .ref (h 6), .int 0, .ref (h 7), .int 0])), ((h 7), .inl ((cs 0), 4, .inr (.inr (.inr (.inr fn))))), ((h 8), .inr (0, [.ref (h 102), .ref (h 103), .int 0])), (o, .inl (cL, 1, .inr (.inl (fun _ => 0))))] s.heap.size = A at hD hEx ⊢
  have hA : ∀ q : Nat, s.heap.size ≤ q → A q := fun q h => by rw [← hAe]; exact Or.inr h
  have hS : va_S A s.heap s.heap [] := va_S.rf
  have hP : va_P D vwCl [((h 0), .inr (11, [.ref (h 1), .ref (h 9), .int 0, .int 0, .ref (h 20), .ref (h 37), .int 0, .ref (h 38), .ref (h 42), .ref (h 43), .ref (h 44), .ref (h 45), .ref (h 46), .ref (h 47), .ref (h 48)])), ((h 1), .inr (8, [.ref (h 2), .int 0, .ref (h 3), .ref (h 4), .int 0, .ref (h 5), .int 0, .ref (h 6), .int 0, .ref (h 7), .int 0])), ((h 7), .inl ((cs 0), 4, .inr (.inr (.inr (.inr fn))))), ((h 8), .inr (0, [.ref (h 102), .ref (h 103), .int 0])), (o, .inl (cL, 1, .inr (.inl (fun _ => 0))))] s.heap := hP
  have hl := lv_entry ([.ref (h 0), .int p0, .int p1, .int p2, .int p3, .ref o]) (n := 7) (Nat.le_of_ble_eq_true rfl)
  rw [lg_entry_eq]
  generalize (lg_sl ([.ref (h 0), .int p0, .int p1, .int p2, .int p3, .ref o]) ++ List.replicate (7 - (lg_sl ([.ref (h 0), .int p0, .int p1, .int p2, .int p3, .ref o])).length) Slot.unset).toArray = ls at hl ⊢
  have hl : lv_has ls 7 [(0, .ref (h 0)), (1, .int p0), (2, .int p1), (3, .int p2), (4, .int p3), (5, .ref o)] := hl
  skip
  refine lv_aload hx hb dL_cut_0 (lv_at hl 5 rfl) ?_
  refine lv_iconst (v := 0) hx hb dL_cut_2 (by decide) ?_
  refine lv_aload_n hx hb dL_cut_3 rfl (lv_at hl 0 rfl) ?_
  refine lv_iload_n hx hb dL_cut_4 rfl (lv_at hl 1 rfl) ?_
  refine lv_iload_n hx hb dL_cut_5 rfl (lv_at hl 2 rfl) ?_
  refine lv_iload_n hx hb dL_cut_6 rfl (lv_at hl 3 rfl) ?_
  refine lv_iload hx hb dL_cut_7 (lv_at hl 4 rfl) ?_
  have hPc := hP.sub (ws' := [((h 0), .inr (11, [.ref (h 1), .ref (h 9), .int 0, .int 0, .ref (h 20), .ref (h 37), .int 0, .ref (h 38), .ref (h 42), .ref (h 43), .ref (h 44), .ref (h 45), .ref (h 46), .ref (h 47), .ref (h 48)])), ((h 1), .inr (8, [.ref (h 2), .int 0, .ref (h 3), .ref (h 4), .int 0, .ref (h 5), .int 0, .ref (h 6), .int 0, .ref (h 7), .int 0])), ((h 7), .inl ((cs 0), 4, .inr (.inr (.inr (.inr fn))))), ((h 8), .inr (0, [.ref (h 102), .ref (h 103), .int 0]))]) [0, 1, 2, 3] rfl
  have hDc := hD.sub (ws' := [((h 0), .inr (11, [.ref (h 1), .ref (h 9), .int 0, .int 0, .ref (h 20), .ref (h 37), .int 0, .ref (h 38), .ref (h 42), .ref (h 43), .ref (h 44), .ref (h 45), .ref (h 46), .ref (h 47), .ref (h 48)])), ((h 1), .inr (8, [.ref (h 2), .int 0, .ref (h 3), .ref (h 4), .int 0, .ref (h 5), .int 0, .ref (h 6), .int 0, .ref (h 7), .int 0])), ((h 7), .inl ((cs 0), 4, .inr (.inr (.inr (.inr fn))))), ((h 8), .inr (0, [.ref (h 102), .ref (h 103), .int 0]))]) [0, 1, 2, 3] (by decide) rfl
  have hKc := hK.sub (tys' := [((cs 0), .object RX0)]) [0] rfl
  have hFc := va_free (wc := [((h 0), .inr (11, [.ref (h 1), .ref (h 9), .int 0, .int 0, .ref (h 20), .ref (h 37), .int 0, .ref (h 38), .ref (h 42), .ref (h 43), .ref (h 44), .ref (h 45), .ref (h 46), .ref (h 47), .ref (h 48)])), ((h 1), .inr (8, [.ref (h 2), .int 0, .ref (h 3), .ref (h 4), .int 0, .ref (h 5), .int 0, .ref (h 6), .int 0, .ref (h 7), .int 0])), ((h 7), .inl ((cs 0), 4, .inr (.inr (.inr (.inr fn))))), ((h 8), .inr (0, [.ref (h 102), .ref (h 103), .int 0]))]) hD hS hA [0, 1, 2, 3] rfl
  refine vx_calli (vx_runV (As := [.int p0, .int p1, .int p2, .int p3]) (rest := [.int 0, .ref o]) ⟨hx, hb, hml, hown, ht⟩ (k_X11_cut l hl0 _ D h cs p0 p1 p2 p3 fn hn) (cwV 4 ht (zG_V zw_668 zw_669 zw_670 zw_404 zw_671) rfl rfl rfl (by decide +kernel) ⟨Nat.le_of_ble_eq_true rfl, Nat.le_of_ble_eq_true rfl⟩) (zW_V (va_recv hK hP (ci := 11) (q0 := 0) rfl rfl) hEx hS hFc hPc hKc hDc) rfl rfl hl.1 rfl (lv_room (Nat.le_of_ble_eq_true rfl)) dL_cut_9 ⟨Nat.le_of_ble_eq_true rfl, Nat.le_of_ble_eq_true rfl⟩) hS (fun q _ h => hFc q h) hFc (fun q _ h => hFc q h) (fun E ce q9 uu t H1 locs1 ht0 hvm hpx hB hz1 hk1 hS hcell hv hcl => ?_) (fun r_1 u_1 t H1 locs ht0 hvm hw_1 hB hz1 hk1 hS => ?_)
  · skip
    obtain ⟨rfl, hb9⟩ := hB
    obtain ⟨hP, hD⟩ := va_join (wr := [(o, .inl (cL, 1, .inr (.inl (fun _ => 0))))]) (w1 := []) hP hD [0, 1, 2, 3] [4] rfl rfl (by decide) (by decide) hk1 hFc zP_nil zD_nil
    refine vx_catch (name := "java/lang/IndexOutOfBoundsException") hown [] ⟨0, 14, 17, 21⟩ [⟨0, 14, 21, 13⟩] hTab ((fun _ h => nomatch h)) (by decide) (by decide) (ht _ zw_597) (va_Nw.use rfl (hEx.1.2.2.2.1 "java/lang/IndexOutOfBoundsException" (by decide))) hcell hv hcl ?_
    generalize H1 = H at hP hS ⊢
    have hP : va_P D vwCl [(o, .inl (cL, 1, .inr (.inl (fun _ => 0))))] H := hP
    have hD : va_D A [(o, .inl (cL, 1, .inr (.inl (fun _ => 0))))] := hD
    refine W.widen (k := 2) (n := 12) (Nat.le_of_ble_eq_true rfl) (Nat.le_of_ble_eq_true rfl) ?_
    refine lv_astore (lv' := [(6, .ref q9), (0, .ref (h 0)), (1, .int p0), (2, .int p1), (3, .int p2), (4, .int p3), (5, .ref o)]) hx hb dL_cut_17 hl (by decide) rfl (fun ls hl => ?_)
    refine lv_iconst (v := 1) hx hb dL_cut_19 (by decide) ?_
    have hP9 := hP.sub (ws' := [(o, .inl (cL, 1, .inr (.inl (fun _ => 0))))]) [0] rfl
    have hD9 := hD.sub (ws' := [(o, .inl (cL, 1, .inr (.inl (fun _ => 0))))]) [0] (by decide) rfl
    have hK9 := hK.sub (tys' := []) [] rfl
    refine W.widen (k := 2) (n := 12) (Nat.le_of_ble_eq_true rfl) (Nat.le_of_ble_eq_true rfl) ?_
    exact W.iret (v := 1) hx hb hr (fun t ht0 hW => ⟨⟨1, 0, rfl, hb9, (fun _ => 0), rfl, zE_of hP9 hK9 hD9 ht0 hW⟩, hS.F ht0⟩) hS.2.2 dL_cut_20
  obtain ⟨hP1, hK1, hD1⟩ := hB
  rw [ht0] at hP1
  have hK1 := va_K.moved hvm.symm hK1
  obtain ⟨hP, hD⟩ := va_join (wr := [(o, .inl (cL, 1, .inr (.inl (fun _ => 0))))]) (w1 := []) hP hD [0, 1, 2, 3] [4] rfl rfl (by decide) (by decide) hk1 hFc hP1 hD1
  generalize H1 = H at hP hS ⊢
  have hP : va_P D vwCl [(o, .inl (cL, 1, .inr (.inl (fun _ => 0))))] H := hP
  have hD : va_D A [(o, .inl (cL, 1, .inr (.inl (fun _ => 0))))] := hD
  refine W.widen (k := 2) (n := 12) (Nat.le_of_ble_eq_true rfl) (Nat.le_of_ble_eq_true rfl) ?_
  exfalso
  unfold zS_cut at hw_1
  obtain ⟨h9, -⟩ := hw_1
  exact absurd h9 (by decide)
set_option maxHeartbeats 4000000 in
set_option maxRecDepth 100000 in
theorem k_L_take (l : Launch) (hl0 : l.stackTraces = false) (sz : Nat) (D : va_G) (h cs : Nat → Nat) (p0 p1 p2 : Int32) (fn : Nat → Option Nat) (hn : ∀ k : Nat, k < 4 → fn k = some (h 8)) (o : Nat) (cL : ClassId) : Met l yL_take (.codeWith yL_take cL_take 6 (some .int) [(0, 12, 15, 21)] :: zT) ({ frames := 8, cells := 2, slots := 12, locals := 135 }) (va_Pc [.ref (h 0), .int p0, .int p1, .int p2, .ref o] (zY D [((h 0), .inr (11, [.ref (h 1), .ref (h 9), .int 0, .int 0, .ref (h 20), .ref (h 37), .int 0, .ref (h 38), .ref (h 42), .ref (h 43), .ref (h 44), .ref (h 45), .ref (h 46), .ref (h 47), .ref (h 48)])), ((h 1), .inr (8, [.ref (h 2), .int 0, .ref (h 3), .ref (h 4), .int 0, .ref (h 5), .int 0, .ref (h 6), .int 0, .ref (h 7), .int 0])), ((h 7), .inl ((cs 0), 4, .inr (.inr (.inr (.inr fn))))), ((h 8), .inr (0, [.ref (h 102), .ref (h 103), .int 0])), (o, .inl (cL, 1, .inr (.inl (fun _ => 0))))] [((cs 0), .object RX0), (cL, .long)] sz)) (va_Qi (fun (r u : Int32) => zS_take p0 p1 p2 r u) (fun u t => ∃ g2 : Nat → Int64, g2 0 = u.toInt64 ∧ zE D [(o, .inl (cL, 1, .inr (.inl g2)))] [] (va_A [((h 0), .inr (11, [.ref (h 1), .ref (h 9), .int 0, .int 0, .ref (h 20), .ref (h 37), .int 0, .ref (h 38), .ref (h 42), .ref (h 43), .ref (h 44), .ref (h 45), .ref (h 46), .ref (h 47), .ref (h 48)])), ((h 1), .inr (8, [.ref (h 2), .int 0, .ref (h 3), .ref (h 4), .int 0, .ref (h 5), .int 0, .ref (h 6), .int 0, .ref (h 7), .int 0])), ((h 7), .inl ((cs 0), 4, .inr (.inr (.inr (.inr fn))))), ((h 8), .inr (0, [.ref (h 102), .ref (h 103), .int 0])), (o, .inl (cL, 1, .inr (.inl (fun _ => 0))))] sz) t) (va_A [((h 0), .inr (11, [.ref (h 1), .ref (h 9), .int 0, .int 0, .ref (h 20), .ref (h 37), .int 0, .ref (h 38), .ref (h 42), .ref (h 43), .ref (h 44), .ref (h 45), .ref (h 46), .ref (h 47), .ref (h 48)])), ((h 1), .inr (8, [.ref (h 2), .int 0, .ref (h 3), .ref (h 4), .int 0, .ref (h 5), .int 0, .ref (h 6), .int 0, .ref (h 7), .int 0])), ((h 7), .inl ((cs 0), 4, .inr (.inr (.inr (.inr fn))))), ((h 8), .inr (0, [.ref (h 102), .ref (h 103), .int 0])), (o, .inl (cL, 1, .inr (.inl (fun _ => 0))))] sz)) 2 12 (va_A [((h 0), .inr (11, [.ref (h 1), .ref (h 9), .int 0, .int 0, .ref (h 20), .ref (h 37), .int 0, .ref (h 38), .ref (h 42), .ref (h 43), .ref (h 44), .ref (h 45), .ref (h 46), .ref (h 47), .ref (h 48)])), ((h 1), .inr (8, [.ref (h 2), .int 0, .ref (h 3), .ref (h 4), .int 0, .ref (h 5), .int 0, .ref (h 6), .int 0, .ref (h 7), .int 0])), ((h 7), .inl ((cs 0), 4, .inr (.inr (.inr (.inr fn))))), ((h 8), .inr (0, [.ref (h 102), .ref (h 103), .int 0])), (o, .inl (cL, 1, .inr (.inl (fun _ => 0))))] sz) := by
  refine zOfWH (cc := cL_take) (maxL := 6) (ret := (some .int)) (by decide) rfl ?_
  intro p e s m args below meth c s₁ B hml hv
  obtain ⟨rfl, hNc, hEx, hsz, hP, hK, hD0⟩ := hv
  have hx := B.exec
  have hb := B.bytes
  have hr := B.returns
  have hts := atoms_spec (ws := (.codeWith yL_take cL_take 6 (some .int) [(0, 12, 15, 21)] :: zT)) B.pre
  have ht : ∀ w ∈ zT, w.before _ s = true := fun w h => hts w (List.mem_cons_of_mem _ h)
  have hown : s.vm.findClass RL = some m.cls := findClass_of_methodNamed B.named
  have hlocks := B.notSynchronized
  have hTab := vx_table (x := yL_take) B (hts _ List.mem_cons_self)
  subst hsz
  have hD := hD0.self (sz := s.heap.size)
  generalize hAe : va_A [((h 0), .inr (11, [.ref (h 1), .ref (h 9), .int 0, .int 0, .ref (h 20), .ref (h 37), .int 0, .ref (h 38), .ref (h 42), .ref (h 43), .ref (h 44), .ref (h 45), .ref (h 46), .ref (h 47), .ref (h 48)])), ((h 1), .inr (8, [.ref (h 2), .int 0, .ref (h 3), .ref (h 4), .int 0, .ref (h 5), .int 0, .ref (h 6), .int 0, .ref (h 7), .int 0])), ((h 7), .inl ((cs 0), 4, .inr (.inr (.inr (.inr fn))))), ((h 8), .inr (0, [.ref (h 102), .ref (h 103), .int 0])), (o, .inl (cL, 1, .inr (.inl (fun _ => 0))))] s.heap.size = A at hD hEx ⊢
  have hA : ∀ q : Nat, s.heap.size ≤ q → A q := fun q h => by rw [← hAe]; exact Or.inr h
  have hS : va_S A s.heap s.heap [] := va_S.rf
  have hP : va_P D vwCl [((h 0), .inr (11, [.ref (h 1), .ref (h 9), .int 0, .int 0, .ref (h 20), .ref (h 37), .int 0, .ref (h 38), .ref (h 42), .ref (h 43), .ref (h 44), .ref (h 45), .ref (h 46), .ref (h 47), .ref (h 48)])), ((h 1), .inr (8, [.ref (h 2), .int 0, .ref (h 3), .ref (h 4), .int 0, .ref (h 5), .int 0, .ref (h 6), .int 0, .ref (h 7), .int 0])), ((h 7), .inl ((cs 0), 4, .inr (.inr (.inr (.inr fn))))), ((h 8), .inr (0, [.ref (h 102), .ref (h 103), .int 0])), (o, .inl (cL, 1, .inr (.inl (fun _ => 0))))] s.heap := hP
  have hl := lv_entry ([.ref (h 0), .int p0, .int p1, .int p2, .ref o]) (n := 6) (Nat.le_of_ble_eq_true rfl)
  rw [lg_entry_eq]
  generalize (lg_sl ([.ref (h 0), .int p0, .int p1, .int p2, .ref o]) ++ List.replicate (6 - (lg_sl ([.ref (h 0), .int p0, .int p1, .int p2, .ref o])).length) Slot.unset).toArray = ls at hl ⊢
  have hl : lv_has ls 6 [(0, .ref (h 0)), (1, .int p0), (2, .int p1), (3, .int p2), (4, .ref o)] := hl
  skip
  refine lv_aload hx hb dL_take_0 (lv_at hl 4 rfl) ?_
  refine lv_iconst (v := 0) hx hb dL_take_2 (by decide) ?_
  refine lv_aload_n hx hb dL_take_3 rfl (lv_at hl 0 rfl) ?_
  refine lv_iload_n hx hb dL_take_4 rfl (lv_at hl 1 rfl) ?_
  refine lv_iload_n hx hb dL_take_5 rfl (lv_at hl 2 rfl) ?_
  refine lv_iload_n hx hb dL_take_6 rfl (lv_at hl 3 rfl) ?_
  have hPc := hP.sub (ws' := [((h 0), .inr (11, [.ref (h 1), .ref (h 9), .int 0, .int 0, .ref (h 20), .ref (h 37), .int 0, .ref (h 38), .ref (h 42), .ref (h 43), .ref (h 44), .ref (h 45), .ref (h 46), .ref (h 47), .ref (h 48)])), ((h 1), .inr (8, [.ref (h 2), .int 0, .ref (h 3), .ref (h 4), .int 0, .ref (h 5), .int 0, .ref (h 6), .int 0, .ref (h 7), .int 0])), ((h 7), .inl ((cs 0), 4, .inr (.inr (.inr (.inr fn))))), ((h 8), .inr (0, [.ref (h 102), .ref (h 103), .int 0]))]) [0, 1, 2, 3] rfl
  have hDc := hD.sub (ws' := [((h 0), .inr (11, [.ref (h 1), .ref (h 9), .int 0, .int 0, .ref (h 20), .ref (h 37), .int 0, .ref (h 38), .ref (h 42), .ref (h 43), .ref (h 44), .ref (h 45), .ref (h 46), .ref (h 47), .ref (h 48)])), ((h 1), .inr (8, [.ref (h 2), .int 0, .ref (h 3), .ref (h 4), .int 0, .ref (h 5), .int 0, .ref (h 6), .int 0, .ref (h 7), .int 0])), ((h 7), .inl ((cs 0), 4, .inr (.inr (.inr (.inr fn))))), ((h 8), .inr (0, [.ref (h 102), .ref (h 103), .int 0]))]) [0, 1, 2, 3] (by decide) rfl
  have hKc := hK.sub (tys' := [((cs 0), .object RX0)]) [0] rfl
  have hFc := va_free (wc := [((h 0), .inr (11, [.ref (h 1), .ref (h 9), .int 0, .int 0, .ref (h 20), .ref (h 37), .int 0, .ref (h 38), .ref (h 42), .ref (h 43), .ref (h 44), .ref (h 45), .ref (h 46), .ref (h 47), .ref (h 48)])), ((h 1), .inr (8, [.ref (h 2), .int 0, .ref (h 3), .ref (h 4), .int 0, .ref (h 5), .int 0, .ref (h 6), .int 0, .ref (h 7), .int 0])), ((h 7), .inl ((cs 0), 4, .inr (.inr (.inr (.inr fn))))), ((h 8), .inr (0, [.ref (h 102), .ref (h 103), .int 0]))]) hD hS hA [0, 1, 2, 3] rfl
  refine vx_calli (vx_runV (As := [.int p0, .int p1, .int p2]) (rest := [.int 0, .ref o]) ⟨hx, hb, hml, hown, ht⟩ (k_X11_take l hl0 _ D h cs p0 p1 p2 fn hn) (cwV 3 ht (zG_V zw_672 zw_673 zw_674 zw_404 zw_675) rfl rfl rfl (by decide +kernel) ⟨Nat.le_of_ble_eq_true rfl, Nat.le_of_ble_eq_true rfl⟩) (zW_V (va_recv hK hP (ci := 11) (q0 := 0) rfl rfl) hEx hS hFc hPc hKc hDc) rfl rfl hl.1 rfl (lv_room (Nat.le_of_ble_eq_true rfl)) dL_take_7 ⟨Nat.le_of_ble_eq_true rfl, Nat.le_of_ble_eq_true rfl⟩) hS (fun q _ h => hFc q h) hFc (fun q _ h => hFc q h) (fun E ce q9 uu t H1 locs1 ht0 hvm hpx hB hz1 hk1 hS hcell hv hcl => ?_) (fun r_1 u_1 t H1 locs ht0 hvm hw_1 hB hz1 hk1 hS => ?_)
  · skip
    obtain ⟨rfl, hb9⟩ := hB
    obtain ⟨hP, hD⟩ := va_join (wr := [(o, .inl (cL, 1, .inr (.inl (fun _ => 0))))]) (w1 := []) hP hD [0, 1, 2, 3] [4] rfl rfl (by decide) (by decide) hk1 hFc zP_nil zD_nil
    refine vx_catch (name := "java/lang/IndexOutOfBoundsException") hown [] ⟨0, 12, 15, 21⟩ [] hTab ((fun _ h => nomatch h)) (by decide) (by decide) (ht _ zw_597) (va_Nw.use rfl (hEx.1.2.2.2.1 "java/lang/IndexOutOfBoundsException" (by decide))) hcell hv hcl ?_
    generalize H1 = H at hP hS ⊢
    have hP : va_P D vwCl [(o, .inl (cL, 1, .inr (.inl (fun _ => 0))))] H := hP
    have hD : va_D A [(o, .inl (cL, 1, .inr (.inl (fun _ => 0))))] := hD
    refine W.widen (k := 2) (n := 12) (Nat.le_of_ble_eq_true rfl) (Nat.le_of_ble_eq_true rfl) ?_
    refine lv_astore (lv' := [(5, .ref q9), (0, .ref (h 0)), (1, .int p0), (2, .int p1), (3, .int p2), (4, .ref o)]) hx hb dL_take_15 hl (by decide) rfl (fun ls hl => ?_)
    refine lv_iconst (v := 1) hx hb dL_take_17 (by decide) ?_
    have hP9 := hP.sub (ws' := [(o, .inl (cL, 1, .inr (.inl (fun _ => 0))))]) [0] rfl
    have hD9 := hD.sub (ws' := [(o, .inl (cL, 1, .inr (.inl (fun _ => 0))))]) [0] (by decide) rfl
    have hK9 := hK.sub (tys' := []) [] rfl
    refine W.widen (k := 2) (n := 12) (Nat.le_of_ble_eq_true rfl) (Nat.le_of_ble_eq_true rfl) ?_
    exact W.iret (v := 1) hx hb hr (fun t ht0 hW => ⟨⟨1, 0, rfl, hb9, (fun _ => 0), rfl, zE_of hP9 hK9 hD9 ht0 hW⟩, hS.F ht0⟩) hS.2.2 dL_take_18
  obtain ⟨hP1, hK1, hD1⟩ := hB
  rw [ht0] at hP1
  have hK1 := va_K.moved hvm.symm hK1
  obtain ⟨hP, hD⟩ := va_join (wr := [(o, .inl (cL, 1, .inr (.inl (fun _ => 0))))]) (w1 := []) hP hD [0, 1, 2, 3] [4] rfl rfl (by decide) (by decide) hk1 hFc hP1 hD1
  generalize H1 = H at hP hS ⊢
  have hP : va_P D vwCl [(o, .inl (cL, 1, .inr (.inl (fun _ => 0))))] H := hP
  have hD : va_D A [(o, .inl (cL, 1, .inr (.inl (fun _ => 0))))] := hD
  refine W.widen (k := 2) (n := 12) (Nat.le_of_ble_eq_true rfl) (Nat.le_of_ble_eq_true rfl) ?_
  exfalso
  unfold zS_take at hw_1
  obtain ⟨h9, -⟩ := hw_1
  exact absurd h9 (by decide)
set_option maxHeartbeats 4000000 in
set_option maxRecDepth 100000 in
theorem k_L_find (l : Launch) (hl0 : l.stackTraces = false) (sz : Nat) (D : va_G) (h cs : Nat → Nat) (p0 p1 p2 p3 p4 : Int32) (o : Nat) (cL : ClassId) : Met l yL_find (.codeWith yL_find cL_find 8 (some .int) [(0, 16, 19, 21), (0, 16, 23, 13), (0, 16, 27, 15), (0, 16, 31, 41)] :: zT) ({ frames := 8, cells := 6, slots := 36, locals := 138 }) (va_Pc [.ref (h 0), .int p0, .int p1, .int p2, .int p3, .int p4, .ref o] (zY D [((h 0), .inr (11, [.ref (h 1), .ref (h 9), .int 0, .int 0, .ref (h 20), .ref (h 37), .int 0, .ref (h 38), .ref (h 42), .ref (h 43), .ref (h 44), .ref (h 45), .ref (h 46), .ref (h 47), .ref (h 48)])), ((h 1), .inr (8, [.ref (h 2), .int 0, .ref (h 3), .ref (h 4), .int 0, .ref (h 5), .int 0, .ref (h 6), .int 0, .ref (h 7), .int 0])), ((h 3), .inl ((cs 9), 10, .inr (.inr (.inr (.inr (fun _ => none)))))), (o, .inl (cL, 1, .inr (.inl (fun _ => 0))))] [((cs 9), .object RX9), (cL, .long)] sz)) (va_Qi (fun (r u : Int32) => zS_find p0 p1 p2 p3 p4 r u) (fun u t => ∃ g2 : Nat → Int64, g2 0 = u.toInt64 ∧ zE D [(o, .inl (cL, 1, .inr (.inl g2)))] [] (va_A [((h 0), .inr (11, [.ref (h 1), .ref (h 9), .int 0, .int 0, .ref (h 20), .ref (h 37), .int 0, .ref (h 38), .ref (h 42), .ref (h 43), .ref (h 44), .ref (h 45), .ref (h 46), .ref (h 47), .ref (h 48)])), ((h 1), .inr (8, [.ref (h 2), .int 0, .ref (h 3), .ref (h 4), .int 0, .ref (h 5), .int 0, .ref (h 6), .int 0, .ref (h 7), .int 0])), ((h 3), .inl ((cs 9), 10, .inr (.inr (.inr (.inr (fun _ => none)))))), (o, .inl (cL, 1, .inr (.inl (fun _ => 0))))] sz) t) (va_A [((h 0), .inr (11, [.ref (h 1), .ref (h 9), .int 0, .int 0, .ref (h 20), .ref (h 37), .int 0, .ref (h 38), .ref (h 42), .ref (h 43), .ref (h 44), .ref (h 45), .ref (h 46), .ref (h 47), .ref (h 48)])), ((h 1), .inr (8, [.ref (h 2), .int 0, .ref (h 3), .ref (h 4), .int 0, .ref (h 5), .int 0, .ref (h 6), .int 0, .ref (h 7), .int 0])), ((h 3), .inl ((cs 9), 10, .inr (.inr (.inr (.inr (fun _ => none)))))), (o, .inl (cL, 1, .inr (.inl (fun _ => 0))))] sz)) 6 36 (va_A [((h 0), .inr (11, [.ref (h 1), .ref (h 9), .int 0, .int 0, .ref (h 20), .ref (h 37), .int 0, .ref (h 38), .ref (h 42), .ref (h 43), .ref (h 44), .ref (h 45), .ref (h 46), .ref (h 47), .ref (h 48)])), ((h 1), .inr (8, [.ref (h 2), .int 0, .ref (h 3), .ref (h 4), .int 0, .ref (h 5), .int 0, .ref (h 6), .int 0, .ref (h 7), .int 0])), ((h 3), .inl ((cs 9), 10, .inr (.inr (.inr (.inr (fun _ => none)))))), (o, .inl (cL, 1, .inr (.inl (fun _ => 0))))] sz) := by
  refine zOfWH (cc := cL_find) (maxL := 8) (ret := (some .int)) (by decide) rfl ?_
  intro p e s m args below meth c s₁ B hml hv
  obtain ⟨rfl, hNc, hEx, hsz, hP, hK, hD0⟩ := hv
  have hx := B.exec
  have hb := B.bytes
  have hr := B.returns
  have hts := atoms_spec (ws := (.codeWith yL_find cL_find 8 (some .int) [(0, 16, 19, 21), (0, 16, 23, 13), (0, 16, 27, 15), (0, 16, 31, 41)] :: zT)) B.pre
  have ht : ∀ w ∈ zT, w.before _ s = true := fun w h => hts w (List.mem_cons_of_mem _ h)
  have hown : s.vm.findClass RL = some m.cls := findClass_of_methodNamed B.named
  have hlocks := B.notSynchronized
  have hTab := vx_table (x := yL_find) B (hts _ List.mem_cons_self)
  subst hsz
  have hD := hD0.self (sz := s.heap.size)
  generalize hAe : va_A [((h 0), .inr (11, [.ref (h 1), .ref (h 9), .int 0, .int 0, .ref (h 20), .ref (h 37), .int 0, .ref (h 38), .ref (h 42), .ref (h 43), .ref (h 44), .ref (h 45), .ref (h 46), .ref (h 47), .ref (h 48)])), ((h 1), .inr (8, [.ref (h 2), .int 0, .ref (h 3), .ref (h 4), .int 0, .ref (h 5), .int 0, .ref (h 6), .int 0, .ref (h 7), .int 0])), ((h 3), .inl ((cs 9), 10, .inr (.inr (.inr (.inr (fun _ => none)))))), (o, .inl (cL, 1, .inr (.inl (fun _ => 0))))] s.heap.size = A at hD hEx ⊢
  have hA : ∀ q : Nat, s.heap.size ≤ q → A q := fun q h => by rw [← hAe]; exact Or.inr h
  have hS : va_S A s.heap s.heap [] := va_S.rf
  have hP : va_P D vwCl [((h 0), .inr (11, [.ref (h 1), .ref (h 9), .int 0, .int 0, .ref (h 20), .ref (h 37), .int 0, .ref (h 38), .ref (h 42), .ref (h 43), .ref (h 44), .ref (h 45), .ref (h 46), .ref (h 47), .ref (h 48)])), ((h 1), .inr (8, [.ref (h 2), .int 0, .ref (h 3), .ref (h 4), .int 0, .ref (h 5), .int 0, .ref (h 6), .int 0, .ref (h 7), .int 0])), ((h 3), .inl ((cs 9), 10, .inr (.inr (.inr (.inr (fun _ => none)))))), (o, .inl (cL, 1, .inr (.inl (fun _ => 0))))] s.heap := hP
  have hl := lv_entry ([.ref (h 0), .int p0, .int p1, .int p2, .int p3, .int p4, .ref o]) (n := 8) (Nat.le_of_ble_eq_true rfl)
  rw [lg_entry_eq]
  generalize (lg_sl ([.ref (h 0), .int p0, .int p1, .int p2, .int p3, .int p4, .ref o]) ++ List.replicate (8 - (lg_sl ([.ref (h 0), .int p0, .int p1, .int p2, .int p3, .int p4, .ref o])).length) Slot.unset).toArray = ls at hl ⊢
  have hl : lv_has ls 8 [(0, .ref (h 0)), (1, .int p0), (2, .int p1), (3, .int p2), (4, .int p3), (5, .int p4), (6, .ref o)] := hl
  skip
  refine lv_aload hx hb dL_find_0 (lv_at hl 6 rfl) ?_
  refine lv_iconst (v := 0) hx hb dL_find_2 (by decide) ?_
  refine lv_aload_n hx hb dL_find_3 rfl (lv_at hl 0 rfl) ?_
  refine lv_iload_n hx hb dL_find_4 rfl (lv_at hl 1 rfl) ?_
  refine lv_iload_n hx hb dL_find_5 rfl (lv_at hl 2 rfl) ?_
  refine lv_iload_n hx hb dL_find_6 rfl (lv_at hl 3 rfl) ?_
  refine lv_iload hx hb dL_find_7 (lv_at hl 4 rfl) ?_
  refine lv_iload hx hb dL_find_9 (lv_at hl 5 rfl) ?_
  have hPc := hP.sub (ws' := [((h 0), .inr (11, [.ref (h 1), .ref (h 9), .int 0, .int 0, .ref (h 20), .ref (h 37), .int 0, .ref (h 38), .ref (h 42), .ref (h 43), .ref (h 44), .ref (h 45), .ref (h 46), .ref (h 47), .ref (h 48)])), ((h 1), .inr (8, [.ref (h 2), .int 0, .ref (h 3), .ref (h 4), .int 0, .ref (h 5), .int 0, .ref (h 6), .int 0, .ref (h 7), .int 0])), ((h 3), .inl ((cs 9), 10, .inr (.inr (.inr (.inr (fun _ => none))))))]) [0, 1, 2] rfl
  have hDc := hD.sub (ws' := [((h 0), .inr (11, [.ref (h 1), .ref (h 9), .int 0, .int 0, .ref (h 20), .ref (h 37), .int 0, .ref (h 38), .ref (h 42), .ref (h 43), .ref (h 44), .ref (h 45), .ref (h 46), .ref (h 47), .ref (h 48)])), ((h 1), .inr (8, [.ref (h 2), .int 0, .ref (h 3), .ref (h 4), .int 0, .ref (h 5), .int 0, .ref (h 6), .int 0, .ref (h 7), .int 0])), ((h 3), .inl ((cs 9), 10, .inr (.inr (.inr (.inr (fun _ => none))))))]) [0, 1, 2] (by decide) rfl
  have hKc := hK.sub (tys' := [((cs 9), .object RX9)]) [0] rfl
  have hFc := va_free (wc := [((h 0), .inr (11, [.ref (h 1), .ref (h 9), .int 0, .int 0, .ref (h 20), .ref (h 37), .int 0, .ref (h 38), .ref (h 42), .ref (h 43), .ref (h 44), .ref (h 45), .ref (h 46), .ref (h 47), .ref (h 48)])), ((h 1), .inr (8, [.ref (h 2), .int 0, .ref (h 3), .ref (h 4), .int 0, .ref (h 5), .int 0, .ref (h 6), .int 0, .ref (h 7), .int 0])), ((h 3), .inl ((cs 9), 10, .inr (.inr (.inr (.inr (fun _ => none))))))]) hD hS hA [0, 1, 2] rfl
  refine vx_calli (vx_runV (As := [.int p0, .int p1, .int p2, .int p3, .int p4]) (rest := [.int 0, .ref o]) ⟨hx, hb, hml, hown, ht⟩ (k_X11_find l hl0 _ D h cs p0 p1 p2 p3 p4) (cwV 5 ht (zG_V zw_676 zw_677 zw_678 zw_404 zw_679) rfl rfl rfl (by decide +kernel) ⟨Nat.le_of_ble_eq_true rfl, Nat.le_of_ble_eq_true rfl⟩) (zW_V (va_recv hK hP (ci := 11) (q0 := 0) rfl rfl) hEx hS hFc hPc hKc hDc) rfl rfl hl.1 rfl (lv_room (Nat.le_of_ble_eq_true rfl)) dL_find_11 ⟨Nat.le_of_ble_eq_true rfl, Nat.le_of_ble_eq_true rfl⟩) hS (fun q _ h => hFc q h) hFc (fun q _ h => hFc q h) (fun E ce q9 uu t H1 locs1 ht0 hvm hpx hB hz1 hk1 hS hcell hv hcl => ?_) (fun r_1 u_1 t H1 locs ht0 hvm hw_1 hB hz1 hk1 hS => ?_)
  · skip
    rcases hB with ⟨rfl, hb9⟩ | ⟨rfl, hb9⟩ | ⟨rfl, hb9⟩
    · skip
      obtain ⟨hP, hD⟩ := va_join (wr := [(o, .inl (cL, 1, .inr (.inl (fun _ => 0))))]) (w1 := []) hP hD [0, 1, 2] [3] rfl rfl (by decide) (by decide) hk1 hFc zP_nil zD_nil
      refine vx_catch (name := "java/lang/IndexOutOfBoundsException") hown [] ⟨0, 16, 19, 21⟩ [⟨0, 16, 23, 13⟩, ⟨0, 16, 27, 15⟩, ⟨0, 16, 31, 41⟩] hTab ((fun _ h => nomatch h)) (by decide) (by decide) (ht _ zw_597) (va_Nw.use rfl (hEx.1.2.2.2.1 "java/lang/IndexOutOfBoundsException" (by decide))) hcell hv hcl ?_
      generalize H1 = H at hP hS ⊢
      have hP : va_P D vwCl [(o, .inl (cL, 1, .inr (.inl (fun _ => 0))))] H := hP
      have hD : va_D A [(o, .inl (cL, 1, .inr (.inl (fun _ => 0))))] := hD
      refine W.widen (k := 6) (n := 36) (Nat.le_of_ble_eq_true rfl) (Nat.le_of_ble_eq_true rfl) ?_
      refine lv_astore (lv' := [(7, .ref q9), (0, .ref (h 0)), (1, .int p0), (2, .int p1), (3, .int p2), (4, .int p3), (5, .int p4), (6, .ref o)]) hx hb dL_find_19 hl (by decide) rfl (fun ls hl => ?_)
      refine lv_iconst (v := 1) hx hb dL_find_21 (by decide) ?_
      have hP9 := hP.sub (ws' := [(o, .inl (cL, 1, .inr (.inl (fun _ => 0))))]) [0] rfl
      have hD9 := hD.sub (ws' := [(o, .inl (cL, 1, .inr (.inl (fun _ => 0))))]) [0] (by decide) rfl
      have hK9 := hK.sub (tys' := []) [] rfl
      refine W.widen (k := 6) (n := 36) (Nat.le_of_ble_eq_true rfl) (Nat.le_of_ble_eq_true rfl) ?_
      exact W.iret (v := 1) hx hb hr (fun t ht0 hW => ⟨⟨1, 0, rfl, hb9, (fun _ => 0), rfl, zE_of hP9 hK9 hD9 ht0 hW⟩, hS.F ht0⟩) hS.2.2 dL_find_22
    · skip
      obtain ⟨hP, hD⟩ := va_join (wr := [(o, .inl (cL, 1, .inr (.inl (fun _ => 0))))]) (w1 := []) hP hD [0, 1, 2] [3] rfl rfl (by decide) (by decide) hk1 hFc zP_nil zD_nil
      refine vx_catch (name := "java/lang/IllegalArgumentException") hown [⟨0, 16, 19, 21⟩] ⟨0, 16, 23, 13⟩ [⟨0, 16, 27, 15⟩, ⟨0, 16, 31, 41⟩] hTab (List.forall_mem_cons.mpr ⟨.inr ⟨by decide, "java/lang/IndexOutOfBoundsException", ht _ zw_597, hNc ("java/lang/IllegalArgumentException", "java/lang/IndexOutOfBoundsException") (by decide)⟩, (fun _ h => nomatch h)⟩) (by decide) (by decide) (ht _ zw_592) (va_Nw.use rfl (hEx.1.2.2.2.1 "java/lang/IllegalArgumentException" (by decide))) hcell hv hcl ?_
      generalize H1 = H at hP hS ⊢
      have hP : va_P D vwCl [(o, .inl (cL, 1, .inr (.inl (fun _ => 0))))] H := hP
      have hD : va_D A [(o, .inl (cL, 1, .inr (.inl (fun _ => 0))))] := hD
      refine W.widen (k := 6) (n := 36) (Nat.le_of_ble_eq_true rfl) (Nat.le_of_ble_eq_true rfl) ?_
      refine lv_astore (lv' := [(7, .ref q9), (0, .ref (h 0)), (1, .int p0), (2, .int p1), (3, .int p2), (4, .int p3), (5, .int p4), (6, .ref o)]) hx hb dL_find_23 hl (by decide) rfl (fun ls hl => ?_)
      refine lv_iconst (v := 2) hx hb dL_find_25 (by decide) ?_
      have hP9 := hP.sub (ws' := [(o, .inl (cL, 1, .inr (.inl (fun _ => 0))))]) [0] rfl
      have hD9 := hD.sub (ws' := [(o, .inl (cL, 1, .inr (.inl (fun _ => 0))))]) [0] (by decide) rfl
      have hK9 := hK.sub (tys' := []) [] rfl
      refine W.widen (k := 6) (n := 36) (Nat.le_of_ble_eq_true rfl) (Nat.le_of_ble_eq_true rfl) ?_
      exact W.iret (v := 2) hx hb hr (fun t ht0 hW => ⟨⟨2, 0, rfl, hb9, (fun _ => 0), rfl, zE_of hP9 hK9 hD9 ht0 hW⟩, hS.F ht0⟩) hS.2.2 dL_find_26
    · skip
      obtain ⟨hP, hD⟩ := va_join (wr := [(o, .inl (cL, 1, .inr (.inl (fun _ => 0))))]) (w1 := []) hP hD [0, 1, 2] [3] rfl rfl (by decide) (by decide) hk1 hFc zP_nil zD_nil
      refine vx_catch (name := "java/lang/IllegalStateException") hown [⟨0, 16, 19, 21⟩, ⟨0, 16, 23, 13⟩] ⟨0, 16, 27, 15⟩ [⟨0, 16, 31, 41⟩] hTab (List.forall_mem_cons.mpr ⟨.inr ⟨by decide, "java/lang/IndexOutOfBoundsException", ht _ zw_597, hNc ("java/lang/IllegalStateException", "java/lang/IndexOutOfBoundsException") (by decide)⟩, List.forall_mem_cons.mpr ⟨.inr ⟨by decide, "java/lang/IllegalArgumentException", ht _ zw_592, hNc ("java/lang/IllegalStateException", "java/lang/IllegalArgumentException") (by decide)⟩, (fun _ h => nomatch h)⟩⟩) (by decide) (by decide) (ht _ zw_610) (va_Nw.use rfl (hEx.1.2.2.2.1 "java/lang/IllegalStateException" (by decide))) hcell hv hcl ?_
      generalize H1 = H at hP hS ⊢
      have hP : va_P D vwCl [(o, .inl (cL, 1, .inr (.inl (fun _ => 0))))] H := hP
      have hD : va_D A [(o, .inl (cL, 1, .inr (.inl (fun _ => 0))))] := hD
      refine W.widen (k := 6) (n := 36) (Nat.le_of_ble_eq_true rfl) (Nat.le_of_ble_eq_true rfl) ?_
      refine lv_astore (lv' := [(7, .ref q9), (0, .ref (h 0)), (1, .int p0), (2, .int p1), (3, .int p2), (4, .int p3), (5, .int p4), (6, .ref o)]) hx hb dL_find_27 hl (by decide) rfl (fun ls hl => ?_)
      refine lv_iconst (v := 3) hx hb dL_find_29 (by decide) ?_
      have hP9 := hP.sub (ws' := [(o, .inl (cL, 1, .inr (.inl (fun _ => 0))))]) [0] rfl
      have hD9 := hD.sub (ws' := [(o, .inl (cL, 1, .inr (.inl (fun _ => 0))))]) [0] (by decide) rfl
      have hK9 := hK.sub (tys' := []) [] rfl
      refine W.widen (k := 6) (n := 36) (Nat.le_of_ble_eq_true rfl) (Nat.le_of_ble_eq_true rfl) ?_
      exact W.iret (v := 3) hx hb hr (fun t ht0 hW => ⟨⟨3, 0, rfl, hb9, (fun _ => 0), rfl, zE_of hP9 hK9 hD9 ht0 hW⟩, hS.F ht0⟩) hS.2.2 dL_find_30
  obtain ⟨hP1, hK1, hD1⟩ := hB
  rw [ht0] at hP1
  have hK1 := va_K.moved hvm.symm hK1
  obtain ⟨hP, hD⟩ := va_join (wr := [(o, .inl (cL, 1, .inr (.inl (fun _ => 0))))]) (w1 := []) hP hD [0, 1, 2] [3] rfl rfl (by decide) (by decide) hk1 hFc hP1 hD1
  generalize H1 = H at hP hS ⊢
  have hP : va_P D vwCl [(o, .inl (cL, 1, .inr (.inl (fun _ => 0))))] H := hP
  have hD : va_D A [(o, .inl (cL, 1, .inr (.inl (fun _ => 0))))] := hD
  refine W.widen (k := 6) (n := 36) (Nat.le_of_ble_eq_true rfl) (Nat.le_of_ble_eq_true rfl) ?_
  exfalso
  unfold zS_find at hw_1
  rcases hw_1 with ⟨h9, -⟩ | ⟨h9, -⟩ | ⟨h9, -⟩
  · exact absurd h9 (by decide)
  · exact absurd h9 (by decide)
  · exact absurd h9 (by decide)
set_option maxHeartbeats 4000000 in
set_option maxRecDepth 100000 in
theorem k_L_restore (l : Launch) (hl0 : l.stackTraces = false) (sz : Nat) (D : va_G) (h cs : Nat → Nat) (p0 : Int32) (o : Nat) (cL : ClassId) : Met l yL_restore (.codeWith yL_restore cL_restore 4 (some .int) [(0, 9, 12, 21), (0, 9, 15, 15)] :: zT) ({ frames := 8, cells := 2, slots := 12, locals := 132 }) (va_Pc [.ref (h 0), .int p0, .ref o] (zY D [((h 0), .inr (11, [.ref (h 1), .ref (h 9), .int 0, .int 0, .ref (h 20), .ref (h 37), .int 0, .ref (h 38), .ref (h 42), .ref (h 43), .ref (h 44), .ref (h 45), .ref (h 46), .ref (h 47), .ref (h 48)])), ((h 37), .inl ((cs 14), 2, .inl zI0)), (o, .inl (cL, 1, .inr (.inl (fun _ => 0))))] [((cs 14), .boolean), (cL, .long)] sz)) (va_Qi (fun (r u : Int32) => zS_restore p0 r u) (fun u t => ∃ g2 : Nat → Int64, g2 0 = u.toInt64 ∧ zE D [(o, .inl (cL, 1, .inr (.inl g2)))] [] (va_A [((h 0), .inr (11, [.ref (h 1), .ref (h 9), .int 0, .int 0, .ref (h 20), .ref (h 37), .int 0, .ref (h 38), .ref (h 42), .ref (h 43), .ref (h 44), .ref (h 45), .ref (h 46), .ref (h 47), .ref (h 48)])), ((h 37), .inl ((cs 14), 2, .inl zI0)), (o, .inl (cL, 1, .inr (.inl (fun _ => 0))))] sz) t) (va_A [((h 0), .inr (11, [.ref (h 1), .ref (h 9), .int 0, .int 0, .ref (h 20), .ref (h 37), .int 0, .ref (h 38), .ref (h 42), .ref (h 43), .ref (h 44), .ref (h 45), .ref (h 46), .ref (h 47), .ref (h 48)])), ((h 37), .inl ((cs 14), 2, .inl zI0)), (o, .inl (cL, 1, .inr (.inl (fun _ => 0))))] sz)) 2 12 (va_A [((h 0), .inr (11, [.ref (h 1), .ref (h 9), .int 0, .int 0, .ref (h 20), .ref (h 37), .int 0, .ref (h 38), .ref (h 42), .ref (h 43), .ref (h 44), .ref (h 45), .ref (h 46), .ref (h 47), .ref (h 48)])), ((h 37), .inl ((cs 14), 2, .inl zI0)), (o, .inl (cL, 1, .inr (.inl (fun _ => 0))))] sz) := by
  refine zOfWH (cc := cL_restore) (maxL := 4) (ret := (some .int)) (by decide) rfl ?_
  intro p e s m args below meth c s₁ B hml hv
  obtain ⟨rfl, hNc, hEx, hsz, hP, hK, hD0⟩ := hv
  have hx := B.exec
  have hb := B.bytes
  have hr := B.returns
  have hts := atoms_spec (ws := (.codeWith yL_restore cL_restore 4 (some .int) [(0, 9, 12, 21), (0, 9, 15, 15)] :: zT)) B.pre
  have ht : ∀ w ∈ zT, w.before _ s = true := fun w h => hts w (List.mem_cons_of_mem _ h)
  have hown : s.vm.findClass RL = some m.cls := findClass_of_methodNamed B.named
  have hlocks := B.notSynchronized
  have hTab := vx_table (x := yL_restore) B (hts _ List.mem_cons_self)
  subst hsz
  have hD := hD0.self (sz := s.heap.size)
  generalize hAe : va_A [((h 0), .inr (11, [.ref (h 1), .ref (h 9), .int 0, .int 0, .ref (h 20), .ref (h 37), .int 0, .ref (h 38), .ref (h 42), .ref (h 43), .ref (h 44), .ref (h 45), .ref (h 46), .ref (h 47), .ref (h 48)])), ((h 37), .inl ((cs 14), 2, .inl zI0)), (o, .inl (cL, 1, .inr (.inl (fun _ => 0))))] s.heap.size = A at hD hEx ⊢
  have hA : ∀ q : Nat, s.heap.size ≤ q → A q := fun q h => by rw [← hAe]; exact Or.inr h
  have hS : va_S A s.heap s.heap [] := va_S.rf
  have hP : va_P D vwCl [((h 0), .inr (11, [.ref (h 1), .ref (h 9), .int 0, .int 0, .ref (h 20), .ref (h 37), .int 0, .ref (h 38), .ref (h 42), .ref (h 43), .ref (h 44), .ref (h 45), .ref (h 46), .ref (h 47), .ref (h 48)])), ((h 37), .inl ((cs 14), 2, .inl zI0)), (o, .inl (cL, 1, .inr (.inl (fun _ => 0))))] s.heap := hP
  have hl := lv_entry ([.ref (h 0), .int p0, .ref o]) (n := 4) (Nat.le_of_ble_eq_true rfl)
  rw [lg_entry_eq]
  generalize (lg_sl ([.ref (h 0), .int p0, .ref o]) ++ List.replicate (4 - (lg_sl ([.ref (h 0), .int p0, .ref o])).length) Slot.unset).toArray = ls at hl ⊢
  have hl : lv_has ls 4 [(0, .ref (h 0)), (1, .int p0), (2, .ref o)] := hl
  skip
  refine lv_aload_n hx hb dL_restore_0 rfl (lv_at hl 2 rfl) ?_
  refine lv_iconst (v := 0) hx hb dL_restore_1 (by decide) ?_
  refine lv_aload_n hx hb dL_restore_2 rfl (lv_at hl 0 rfl) ?_
  refine lv_iload_n hx hb dL_restore_3 rfl (lv_at hl 1 rfl) ?_
  have hPc := hP.sub (ws' := [((h 0), .inr (11, [.ref (h 1), .ref (h 9), .int 0, .int 0, .ref (h 20), .ref (h 37), .int 0, .ref (h 38), .ref (h 42), .ref (h 43), .ref (h 44), .ref (h 45), .ref (h 46), .ref (h 47), .ref (h 48)])), ((h 37), .inl ((cs 14), 2, .inl zI0))]) [0, 1] rfl
  have hDc := hD.sub (ws' := [((h 0), .inr (11, [.ref (h 1), .ref (h 9), .int 0, .int 0, .ref (h 20), .ref (h 37), .int 0, .ref (h 38), .ref (h 42), .ref (h 43), .ref (h 44), .ref (h 45), .ref (h 46), .ref (h 47), .ref (h 48)])), ((h 37), .inl ((cs 14), 2, .inl zI0))]) [0, 1] (by decide) rfl
  have hKc := hK.sub (tys' := [((cs 14), .boolean)]) [0] rfl
  have hFc := va_free (wc := [((h 0), .inr (11, [.ref (h 1), .ref (h 9), .int 0, .int 0, .ref (h 20), .ref (h 37), .int 0, .ref (h 38), .ref (h 42), .ref (h 43), .ref (h 44), .ref (h 45), .ref (h 46), .ref (h 47), .ref (h 48)])), ((h 37), .inl ((cs 14), 2, .inl zI0))]) hD hS hA [0, 1] rfl
  refine vx_calli (vx_runV (As := [.int p0]) (rest := [.int 0, .ref o]) ⟨hx, hb, hml, hown, ht⟩ (k_X11_restore l hl0 _ D h cs p0) (cwV 1 ht (zG_V zw_680 zw_681 zw_682 zw_404 zw_683) rfl rfl rfl (by decide +kernel) ⟨Nat.le_of_ble_eq_true rfl, Nat.le_of_ble_eq_true rfl⟩) (zW_V (va_recv hK hP (ci := 11) (q0 := 0) rfl rfl) hEx hS hFc hPc hKc hDc) rfl rfl hl.1 rfl (lv_room (Nat.le_of_ble_eq_true rfl)) dL_restore_4 ⟨Nat.le_of_ble_eq_true rfl, Nat.le_of_ble_eq_true rfl⟩) hS (fun q _ h => hFc q h) hFc (fun q _ h => hFc q h) (fun E ce q9 uu t H1 locs1 ht0 hvm hpx hB hz1 hk1 hS hcell hv hcl => ?_) (fun r_1 u_1 t H1 locs ht0 hvm hw_1 hB hz1 hk1 hS => ?_)
  · skip
    rcases hB with ⟨rfl, hb9⟩ | ⟨rfl, hb9⟩
    · skip
      obtain ⟨hP, hD⟩ := va_join (wr := [(o, .inl (cL, 1, .inr (.inl (fun _ => 0))))]) (w1 := []) hP hD [0, 1] [2] rfl rfl (by decide) (by decide) hk1 hFc zP_nil zD_nil
      refine vx_catch (name := "java/lang/IndexOutOfBoundsException") hown [] ⟨0, 9, 12, 21⟩ [⟨0, 9, 15, 15⟩] hTab ((fun _ h => nomatch h)) (by decide) (by decide) (ht _ zw_597) (va_Nw.use rfl (hEx.1.2.2.2.1 "java/lang/IndexOutOfBoundsException" (by decide))) hcell hv hcl ?_
      generalize H1 = H at hP hS ⊢
      have hP : va_P D vwCl [(o, .inl (cL, 1, .inr (.inl (fun _ => 0))))] H := hP
      have hD : va_D A [(o, .inl (cL, 1, .inr (.inl (fun _ => 0))))] := hD
      refine W.widen (k := 2) (n := 12) (Nat.le_of_ble_eq_true rfl) (Nat.le_of_ble_eq_true rfl) ?_
      refine lv_astore_n (lv' := [(3, .ref q9), (0, .ref (h 0)), (1, .int p0), (2, .ref o)]) hx hb dL_restore_12 rfl hl (by decide) rfl (fun ls hl => ?_)
      refine lv_iconst (v := 1) hx hb dL_restore_13 (by decide) ?_
      have hP9 := hP.sub (ws' := [(o, .inl (cL, 1, .inr (.inl (fun _ => 0))))]) [0] rfl
      have hD9 := hD.sub (ws' := [(o, .inl (cL, 1, .inr (.inl (fun _ => 0))))]) [0] (by decide) rfl
      have hK9 := hK.sub (tys' := []) [] rfl
      refine W.widen (k := 2) (n := 12) (Nat.le_of_ble_eq_true rfl) (Nat.le_of_ble_eq_true rfl) ?_
      exact W.iret (v := 1) hx hb hr (fun t ht0 hW => ⟨⟨1, 0, rfl, hb9, (fun _ => 0), rfl, zE_of hP9 hK9 hD9 ht0 hW⟩, hS.F ht0⟩) hS.2.2 dL_restore_14
    · skip
      obtain ⟨hP, hD⟩ := va_join (wr := [(o, .inl (cL, 1, .inr (.inl (fun _ => 0))))]) (w1 := []) hP hD [0, 1] [2] rfl rfl (by decide) (by decide) hk1 hFc zP_nil zD_nil
      refine vx_catch (name := "java/lang/IllegalStateException") hown [⟨0, 9, 12, 21⟩] ⟨0, 9, 15, 15⟩ [] hTab (List.forall_mem_cons.mpr ⟨.inr ⟨by decide, "java/lang/IndexOutOfBoundsException", ht _ zw_597, hNc ("java/lang/IllegalStateException", "java/lang/IndexOutOfBoundsException") (by decide)⟩, (fun _ h => nomatch h)⟩) (by decide) (by decide) (ht _ zw_610) (va_Nw.use rfl (hEx.1.2.2.2.1 "java/lang/IllegalStateException" (by decide))) hcell hv hcl ?_
      generalize H1 = H at hP hS ⊢
      have hP : va_P D vwCl [(o, .inl (cL, 1, .inr (.inl (fun _ => 0))))] H := hP
      have hD : va_D A [(o, .inl (cL, 1, .inr (.inl (fun _ => 0))))] := hD
      refine W.widen (k := 2) (n := 12) (Nat.le_of_ble_eq_true rfl) (Nat.le_of_ble_eq_true rfl) ?_
      refine lv_astore_n (lv' := [(3, .ref q9), (0, .ref (h 0)), (1, .int p0), (2, .ref o)]) hx hb dL_restore_15 rfl hl (by decide) rfl (fun ls hl => ?_)
      refine lv_iconst (v := 2) hx hb dL_restore_16 (by decide) ?_
      have hP9 := hP.sub (ws' := [(o, .inl (cL, 1, .inr (.inl (fun _ => 0))))]) [0] rfl
      have hD9 := hD.sub (ws' := [(o, .inl (cL, 1, .inr (.inl (fun _ => 0))))]) [0] (by decide) rfl
      have hK9 := hK.sub (tys' := []) [] rfl
      refine W.widen (k := 2) (n := 12) (Nat.le_of_ble_eq_true rfl) (Nat.le_of_ble_eq_true rfl) ?_
      exact W.iret (v := 2) hx hb hr (fun t ht0 hW => ⟨⟨2, 0, rfl, hb9, (fun _ => 0), rfl, zE_of hP9 hK9 hD9 ht0 hW⟩, hS.F ht0⟩) hS.2.2 dL_restore_17
  obtain ⟨hP1, hK1, hD1⟩ := hB
  rw [ht0] at hP1
  have hK1 := va_K.moved hvm.symm hK1
  obtain ⟨hP, hD⟩ := va_join (wr := [(o, .inl (cL, 1, .inr (.inl (fun _ => 0))))]) (w1 := []) hP hD [0, 1] [2] rfl rfl (by decide) (by decide) hk1 hFc hP1 hD1
  generalize H1 = H at hP hS ⊢
  have hP : va_P D vwCl [(o, .inl (cL, 1, .inr (.inl (fun _ => 0))))] H := hP
  have hD : va_D A [(o, .inl (cL, 1, .inr (.inl (fun _ => 0))))] := hD
  refine W.widen (k := 2) (n := 12) (Nat.le_of_ble_eq_true rfl) (Nat.le_of_ble_eq_true rfl) ?_
  exfalso
  unfold zS_restore at hw_1
  rcases hw_1 with ⟨h9, -⟩ | ⟨h9, -⟩
  · exact absurd h9 (by decide)
  · exact absurd h9 (by decide)
set_option maxHeartbeats 4000000 in
set_option maxRecDepth 100000 in
theorem k_L_undo (l : Launch) (hl0 : l.stackTraces = false) (sz : Nat) (D : va_G) (h cs : Nat → Nat) (o : Nat) (cL : ClassId) : Met l yL_undo (.codeWith yL_undo cL_undo 3 (some .int) [(0, 8, 11, 15)] :: zT) ({ frames := 7, cells := 1, slots := 6, locals := 110 }) (va_Pc [.ref (h 0), .ref o] (zY D [((h 0), .inr (11, [.ref (h 1), .ref (h 9), .int 0, .int 0, .ref (h 20), .ref (h 37), .int 0, .ref (h 38), .ref (h 42), .ref (h 43), .ref (h 44), .ref (h 45), .ref (h 46), .ref (h 47), .ref (h 48)])), (o, .inl (cL, 1, .inr (.inl (fun _ => 0))))] [(cL, .long)] sz)) (va_Qi (fun (r u : Int32) => zS_undo r u) (fun u t => ∃ g2 : Nat → Int64, g2 0 = u.toInt64 ∧ zE D [(o, .inl (cL, 1, .inr (.inl g2)))] [] (va_A [((h 0), .inr (11, [.ref (h 1), .ref (h 9), .int 0, .int 0, .ref (h 20), .ref (h 37), .int 0, .ref (h 38), .ref (h 42), .ref (h 43), .ref (h 44), .ref (h 45), .ref (h 46), .ref (h 47), .ref (h 48)])), (o, .inl (cL, 1, .inr (.inl (fun _ => 0))))] sz) t) (va_A [((h 0), .inr (11, [.ref (h 1), .ref (h 9), .int 0, .int 0, .ref (h 20), .ref (h 37), .int 0, .ref (h 38), .ref (h 42), .ref (h 43), .ref (h 44), .ref (h 45), .ref (h 46), .ref (h 47), .ref (h 48)])), (o, .inl (cL, 1, .inr (.inl (fun _ => 0))))] sz)) 1 6 (va_A [((h 0), .inr (11, [.ref (h 1), .ref (h 9), .int 0, .int 0, .ref (h 20), .ref (h 37), .int 0, .ref (h 38), .ref (h 42), .ref (h 43), .ref (h 44), .ref (h 45), .ref (h 46), .ref (h 47), .ref (h 48)])), (o, .inl (cL, 1, .inr (.inl (fun _ => 0))))] sz) := by
  refine zOfWH (cc := cL_undo) (maxL := 3) (ret := (some .int)) (by decide) rfl ?_
  intro p e s m args below meth c s₁ B hml hv
  obtain ⟨rfl, hNc, hEx, hsz, hP, hK, hD0⟩ := hv
  have hx := B.exec
  have hb := B.bytes
  have hr := B.returns
  have hts := atoms_spec (ws := (.codeWith yL_undo cL_undo 3 (some .int) [(0, 8, 11, 15)] :: zT)) B.pre
  have ht : ∀ w ∈ zT, w.before _ s = true := fun w h => hts w (List.mem_cons_of_mem _ h)
  have hown : s.vm.findClass RL = some m.cls := findClass_of_methodNamed B.named
  have hlocks := B.notSynchronized
  have hTab := vx_table (x := yL_undo) B (hts _ List.mem_cons_self)
  subst hsz
  have hD := hD0.self (sz := s.heap.size)
  generalize hAe : va_A [((h 0), .inr (11, [.ref (h 1), .ref (h 9), .int 0, .int 0, .ref (h 20), .ref (h 37), .int 0, .ref (h 38), .ref (h 42), .ref (h 43), .ref (h 44), .ref (h 45), .ref (h 46), .ref (h 47), .ref (h 48)])), (o, .inl (cL, 1, .inr (.inl (fun _ => 0))))] s.heap.size = A at hD hEx ⊢
  have hA : ∀ q : Nat, s.heap.size ≤ q → A q := fun q h => by rw [← hAe]; exact Or.inr h
  have hS : va_S A s.heap s.heap [] := va_S.rf
  have hP : va_P D vwCl [((h 0), .inr (11, [.ref (h 1), .ref (h 9), .int 0, .int 0, .ref (h 20), .ref (h 37), .int 0, .ref (h 38), .ref (h 42), .ref (h 43), .ref (h 44), .ref (h 45), .ref (h 46), .ref (h 47), .ref (h 48)])), (o, .inl (cL, 1, .inr (.inl (fun _ => 0))))] s.heap := hP
  have hl := lv_entry ([.ref (h 0), .ref o]) (n := 3) (Nat.le_of_ble_eq_true rfl)
  rw [lg_entry_eq]
  generalize (lg_sl ([.ref (h 0), .ref o]) ++ List.replicate (3 - (lg_sl ([.ref (h 0), .ref o])).length) Slot.unset).toArray = ls at hl ⊢
  have hl : lv_has ls 3 [(0, .ref (h 0)), (1, .ref o)] := hl
  skip
  refine lv_aload_n hx hb dL_undo_0 rfl (lv_at hl 1 rfl) ?_
  refine lv_iconst (v := 0) hx hb dL_undo_1 (by decide) ?_
  refine lv_aload_n hx hb dL_undo_2 rfl (lv_at hl 0 rfl) ?_
  have hPc := hP.sub (ws' := [((h 0), .inr (11, [.ref (h 1), .ref (h 9), .int 0, .int 0, .ref (h 20), .ref (h 37), .int 0, .ref (h 38), .ref (h 42), .ref (h 43), .ref (h 44), .ref (h 45), .ref (h 46), .ref (h 47), .ref (h 48)]))]) [0] rfl
  have hDc := hD.sub (ws' := [((h 0), .inr (11, [.ref (h 1), .ref (h 9), .int 0, .int 0, .ref (h 20), .ref (h 37), .int 0, .ref (h 38), .ref (h 42), .ref (h 43), .ref (h 44), .ref (h 45), .ref (h 46), .ref (h 47), .ref (h 48)]))]) [0] (by decide) rfl
  have hKc := hK.sub (tys' := []) [] rfl
  have hFc := va_free (wc := [((h 0), .inr (11, [.ref (h 1), .ref (h 9), .int 0, .int 0, .ref (h 20), .ref (h 37), .int 0, .ref (h 38), .ref (h 42), .ref (h 43), .ref (h 44), .ref (h 45), .ref (h 46), .ref (h 47), .ref (h 48)]))]) hD hS hA [0] rfl
  refine vx_calli (vx_runV (As := []) (rest := [.int 0, .ref o]) ⟨hx, hb, hml, hown, ht⟩ (k_X11_undo l hl0 _ D h cs) (cwV 0 ht (zG_V zw_684 zw_685 zw_686 zw_404 zw_687) rfl rfl rfl (by decide +kernel) ⟨Nat.le_of_ble_eq_true rfl, Nat.le_of_ble_eq_true rfl⟩) (zW_V (va_recv hK hP (ci := 11) (q0 := 0) rfl rfl) hEx hS hFc hPc hKc hDc) rfl rfl hl.1 rfl (lv_room (Nat.le_of_ble_eq_true rfl)) dL_undo_3 ⟨Nat.le_of_ble_eq_true rfl, Nat.le_of_ble_eq_true rfl⟩) hS (fun q _ h => hFc q h) hFc (fun q _ h => hFc q h) (fun E ce q9 uu t H1 locs1 ht0 hvm hpx hB hz1 hk1 hS hcell hv hcl => ?_) (fun r_1 u_1 t H1 locs ht0 hvm hw_1 hB hz1 hk1 hS => ?_)
  · skip
    obtain ⟨rfl, hb9⟩ := hB
    obtain ⟨hP, hD⟩ := va_join (wr := [(o, .inl (cL, 1, .inr (.inl (fun _ => 0))))]) (w1 := []) hP hD [0] [1] rfl rfl (by decide) (by decide) hk1 hFc zP_nil zD_nil
    refine vx_catch (name := "java/lang/IllegalStateException") hown [] ⟨0, 8, 11, 15⟩ [] hTab ((fun _ h => nomatch h)) (by decide) (by decide) (ht _ zw_610) (va_Nw.use rfl (hEx.1.2.2.2.1 "java/lang/IllegalStateException" (by decide))) hcell hv hcl ?_
    generalize H1 = H at hP hS ⊢
    have hP : va_P D vwCl [(o, .inl (cL, 1, .inr (.inl (fun _ => 0))))] H := hP
    have hD : va_D A [(o, .inl (cL, 1, .inr (.inl (fun _ => 0))))] := hD
    refine W.widen (k := 1) (n := 6) (Nat.le_of_ble_eq_true rfl) (Nat.le_of_ble_eq_true rfl) ?_
    refine lv_astore_n (lv' := [(2, .ref q9), (0, .ref (h 0)), (1, .ref o)]) hx hb dL_undo_11 rfl hl (by decide) rfl (fun ls hl => ?_)
    refine lv_iconst (v := 1) hx hb dL_undo_12 (by decide) ?_
    have hP9 := hP.sub (ws' := [(o, .inl (cL, 1, .inr (.inl (fun _ => 0))))]) [0] rfl
    have hD9 := hD.sub (ws' := [(o, .inl (cL, 1, .inr (.inl (fun _ => 0))))]) [0] (by decide) rfl
    have hK9 := hK.sub (tys' := []) [] rfl
    refine W.widen (k := 1) (n := 6) (Nat.le_of_ble_eq_true rfl) (Nat.le_of_ble_eq_true rfl) ?_
    exact W.iret (v := 1) hx hb hr (fun t ht0 hW => ⟨⟨1, 0, rfl, hb9, (fun _ => 0), rfl, zE_of hP9 hK9 hD9 ht0 hW⟩, hS.F ht0⟩) hS.2.2 dL_undo_13
  obtain ⟨hP1, hK1, hD1⟩ := hB
  rw [ht0] at hP1
  have hK1 := va_K.moved hvm.symm hK1
  obtain ⟨hP, hD⟩ := va_join (wr := [(o, .inl (cL, 1, .inr (.inl (fun _ => 0))))]) (w1 := []) hP hD [0] [1] rfl rfl (by decide) (by decide) hk1 hFc hP1 hD1
  generalize H1 = H at hP hS ⊢
  have hP : va_P D vwCl [(o, .inl (cL, 1, .inr (.inl (fun _ => 0))))] H := hP
  have hD : va_D A [(o, .inl (cL, 1, .inr (.inl (fun _ => 0))))] := hD
  refine W.widen (k := 1) (n := 6) (Nat.le_of_ble_eq_true rfl) (Nat.le_of_ble_eq_true rfl) ?_
  exfalso
  unfold zS_undo at hw_1
  obtain ⟨h9, -⟩ := hw_1
  exact absurd h9 (by decide)
set_option maxHeartbeats 4000000 in
set_option maxRecDepth 100000 in
theorem k_L_image (l : Launch) (hl0 : l.stackTraces = false) (sz : Nat) (D : va_G) (h cs : Nat → Nat) (p0 : Int32) (fn : Nat → Option Nat) (hn : ∀ k : Nat, k < 4 → fn k = some (h 8)) (fi f1 f2 : Nat → Option Nat) (hi0 : fi 0 = some (h 21)) (hi1 : fi 1 = some (h 29)) (o : Nat) (cL : ClassId) : Met l yL_image (.codeWith yL_image cL_image 4 (some .int) [(0, 16, 19, 21)] :: zT) ({ frames := 8, cells := 1, slots := 6, locals := 133 }) (va_Pc [.ref (h 0), .int p0, .ref o] (zY D [((h 0), .inr (11, [.ref (h 1), .ref (h 9), .int 0, .int 0, .ref (h 20), .ref (h 37), .int 0, .ref (h 38), .ref (h 42), .ref (h 43), .ref (h 44), .ref (h 45), .ref (h 46), .ref (h 47), .ref (h 48)])), ((h 1), .inr (8, [.ref (h 2), .int 0, .ref (h 3), .ref (h 4), .int 0, .ref (h 5), .int 0, .ref (h 6), .int 0, .ref (h 7), .int 0])), ((h 2), .inl ((cs 7), 4, .inr (.inr (.inr (.inr (fun _ => none)))))), ((h 3), .inl ((cs 9), 10, .inr (.inr (.inr (.inr (fun _ => none)))))), ((h 4), .inl ((cs 4), 100, .inr (.inr (.inr (.inr (fun _ => none)))))), ((h 5), .inl ((cs 2), 4, .inr (.inr (.inr (.inr (fun _ => none)))))), ((h 6), .inl ((cs 4), 3, .inr (.inr (.inr (.inr (fun _ => none)))))), ((h 7), .inl ((cs 0), 4, .inr (.inr (.inr (.inr fn))))), ((h 8), .inr (0, [.ref (h 102), .ref (h 103), .int 0])), ((h 20), .inl ((cs 8), 2, .inr (.inr (.inr (.inr fi))))), ((h 21), .inr (8, [.ref (h 22), .int 0, .ref (h 23), .ref (h 24), .int 0, .ref (h 25), .int 0, .ref (h 26), .int 0, .ref (h 27), .int 0])), ((h 22), .inl ((cs 7), 4, .inr (.inr (.inr (.inr (fun _ => none)))))), ((h 23), .inl ((cs 9), 10, .inr (.inr (.inr (.inr (fun _ => none)))))), ((h 24), .inl ((cs 4), 100, .inr (.inr (.inr (.inr (fun _ => none)))))), ((h 25), .inl ((cs 2), 4, .inr (.inr (.inr (.inr (fun _ => none)))))), ((h 26), .inl ((cs 4), 3, .inr (.inr (.inr (.inr (fun _ => none)))))), ((h 27), .inl ((cs 0), 4, .inr (.inr (.inr (.inr f1))))), ((h 29), .inr (8, [.ref (h 30), .int 0, .ref (h 31), .ref (h 32), .int 0, .ref (h 33), .int 0, .ref (h 34), .int 0, .ref (h 35), .int 0])), ((h 30), .inl ((cs 7), 4, .inr (.inr (.inr (.inr (fun _ => none)))))), ((h 31), .inl ((cs 9), 10, .inr (.inr (.inr (.inr (fun _ => none)))))), ((h 32), .inl ((cs 4), 100, .inr (.inr (.inr (.inr (fun _ => none)))))), ((h 33), .inl ((cs 2), 4, .inr (.inr (.inr (.inr (fun _ => none)))))), ((h 34), .inl ((cs 4), 3, .inr (.inr (.inr (.inr (fun _ => none)))))), ((h 35), .inl ((cs 0), 4, .inr (.inr (.inr (.inr f2))))), ((h 37), .inl ((cs 14), 2, .inl zI0)), (o, .inl (cL, 1, .inr (.inl (fun _ => 0))))] [((cs 7), .object RX7), ((cs 9), .object RX9), ((cs 4), .object RX4), ((cs 2), .object RX2), ((cs 0), .object RX0), ((cs 8), .object RX8), ((cs 14), .boolean), (cL, .long)] sz)) (va_Qi (fun (r u : Int32) => zS_image p0 r u) (fun u t => ∃ g2 : Nat → Int64, g2 0 = u.toInt64 ∧ zE D [(o, .inl (cL, 1, .inr (.inl g2)))] [] (va_A [((h 0), .inr (11, [.ref (h 1), .ref (h 9), .int 0, .int 0, .ref (h 20), .ref (h 37), .int 0, .ref (h 38), .ref (h 42), .ref (h 43), .ref (h 44), .ref (h 45), .ref (h 46), .ref (h 47), .ref (h 48)])), ((h 1), .inr (8, [.ref (h 2), .int 0, .ref (h 3), .ref (h 4), .int 0, .ref (h 5), .int 0, .ref (h 6), .int 0, .ref (h 7), .int 0])), ((h 2), .inl ((cs 7), 4, .inr (.inr (.inr (.inr (fun _ => none)))))), ((h 3), .inl ((cs 9), 10, .inr (.inr (.inr (.inr (fun _ => none)))))), ((h 4), .inl ((cs 4), 100, .inr (.inr (.inr (.inr (fun _ => none)))))), ((h 5), .inl ((cs 2), 4, .inr (.inr (.inr (.inr (fun _ => none)))))), ((h 6), .inl ((cs 4), 3, .inr (.inr (.inr (.inr (fun _ => none)))))), ((h 7), .inl ((cs 0), 4, .inr (.inr (.inr (.inr fn))))), ((h 8), .inr (0, [.ref (h 102), .ref (h 103), .int 0])), ((h 20), .inl ((cs 8), 2, .inr (.inr (.inr (.inr fi))))), ((h 21), .inr (8, [.ref (h 22), .int 0, .ref (h 23), .ref (h 24), .int 0, .ref (h 25), .int 0, .ref (h 26), .int 0, .ref (h 27), .int 0])), ((h 22), .inl ((cs 7), 4, .inr (.inr (.inr (.inr (fun _ => none)))))), ((h 23), .inl ((cs 9), 10, .inr (.inr (.inr (.inr (fun _ => none)))))), ((h 24), .inl ((cs 4), 100, .inr (.inr (.inr (.inr (fun _ => none)))))), ((h 25), .inl ((cs 2), 4, .inr (.inr (.inr (.inr (fun _ => none)))))), ((h 26), .inl ((cs 4), 3, .inr (.inr (.inr (.inr (fun _ => none)))))), ((h 27), .inl ((cs 0), 4, .inr (.inr (.inr (.inr f1))))), ((h 29), .inr (8, [.ref (h 30), .int 0, .ref (h 31), .ref (h 32), .int 0, .ref (h 33), .int 0, .ref (h 34), .int 0, .ref (h 35), .int 0])), ((h 30), .inl ((cs 7), 4, .inr (.inr (.inr (.inr (fun _ => none)))))), ((h 31), .inl ((cs 9), 10, .inr (.inr (.inr (.inr (fun _ => none)))))), ((h 32), .inl ((cs 4), 100, .inr (.inr (.inr (.inr (fun _ => none)))))), ((h 33), .inl ((cs 2), 4, .inr (.inr (.inr (.inr (fun _ => none)))))), ((h 34), .inl ((cs 4), 3, .inr (.inr (.inr (.inr (fun _ => none)))))), ((h 35), .inl ((cs 0), 4, .inr (.inr (.inr (.inr f2))))), ((h 37), .inl ((cs 14), 2, .inl zI0)), (o, .inl (cL, 1, .inr (.inl (fun _ => 0))))] sz) t) (va_A [((h 0), .inr (11, [.ref (h 1), .ref (h 9), .int 0, .int 0, .ref (h 20), .ref (h 37), .int 0, .ref (h 38), .ref (h 42), .ref (h 43), .ref (h 44), .ref (h 45), .ref (h 46), .ref (h 47), .ref (h 48)])), ((h 1), .inr (8, [.ref (h 2), .int 0, .ref (h 3), .ref (h 4), .int 0, .ref (h 5), .int 0, .ref (h 6), .int 0, .ref (h 7), .int 0])), ((h 2), .inl ((cs 7), 4, .inr (.inr (.inr (.inr (fun _ => none)))))), ((h 3), .inl ((cs 9), 10, .inr (.inr (.inr (.inr (fun _ => none)))))), ((h 4), .inl ((cs 4), 100, .inr (.inr (.inr (.inr (fun _ => none)))))), ((h 5), .inl ((cs 2), 4, .inr (.inr (.inr (.inr (fun _ => none)))))), ((h 6), .inl ((cs 4), 3, .inr (.inr (.inr (.inr (fun _ => none)))))), ((h 7), .inl ((cs 0), 4, .inr (.inr (.inr (.inr fn))))), ((h 8), .inr (0, [.ref (h 102), .ref (h 103), .int 0])), ((h 20), .inl ((cs 8), 2, .inr (.inr (.inr (.inr fi))))), ((h 21), .inr (8, [.ref (h 22), .int 0, .ref (h 23), .ref (h 24), .int 0, .ref (h 25), .int 0, .ref (h 26), .int 0, .ref (h 27), .int 0])), ((h 22), .inl ((cs 7), 4, .inr (.inr (.inr (.inr (fun _ => none)))))), ((h 23), .inl ((cs 9), 10, .inr (.inr (.inr (.inr (fun _ => none)))))), ((h 24), .inl ((cs 4), 100, .inr (.inr (.inr (.inr (fun _ => none)))))), ((h 25), .inl ((cs 2), 4, .inr (.inr (.inr (.inr (fun _ => none)))))), ((h 26), .inl ((cs 4), 3, .inr (.inr (.inr (.inr (fun _ => none)))))), ((h 27), .inl ((cs 0), 4, .inr (.inr (.inr (.inr f1))))), ((h 29), .inr (8, [.ref (h 30), .int 0, .ref (h 31), .ref (h 32), .int 0, .ref (h 33), .int 0, .ref (h 34), .int 0, .ref (h 35), .int 0])), ((h 30), .inl ((cs 7), 4, .inr (.inr (.inr (.inr (fun _ => none)))))), ((h 31), .inl ((cs 9), 10, .inr (.inr (.inr (.inr (fun _ => none)))))), ((h 32), .inl ((cs 4), 100, .inr (.inr (.inr (.inr (fun _ => none)))))), ((h 33), .inl ((cs 2), 4, .inr (.inr (.inr (.inr (fun _ => none)))))), ((h 34), .inl ((cs 4), 3, .inr (.inr (.inr (.inr (fun _ => none)))))), ((h 35), .inl ((cs 0), 4, .inr (.inr (.inr (.inr f2))))), ((h 37), .inl ((cs 14), 2, .inl zI0)), (o, .inl (cL, 1, .inr (.inl (fun _ => 0))))] sz)) 1 6 (va_A [((h 0), .inr (11, [.ref (h 1), .ref (h 9), .int 0, .int 0, .ref (h 20), .ref (h 37), .int 0, .ref (h 38), .ref (h 42), .ref (h 43), .ref (h 44), .ref (h 45), .ref (h 46), .ref (h 47), .ref (h 48)])), ((h 1), .inr (8, [.ref (h 2), .int 0, .ref (h 3), .ref (h 4), .int 0, .ref (h 5), .int 0, .ref (h 6), .int 0, .ref (h 7), .int 0])), ((h 2), .inl ((cs 7), 4, .inr (.inr (.inr (.inr (fun _ => none)))))), ((h 3), .inl ((cs 9), 10, .inr (.inr (.inr (.inr (fun _ => none)))))), ((h 4), .inl ((cs 4), 100, .inr (.inr (.inr (.inr (fun _ => none)))))), ((h 5), .inl ((cs 2), 4, .inr (.inr (.inr (.inr (fun _ => none)))))), ((h 6), .inl ((cs 4), 3, .inr (.inr (.inr (.inr (fun _ => none)))))), ((h 7), .inl ((cs 0), 4, .inr (.inr (.inr (.inr fn))))), ((h 8), .inr (0, [.ref (h 102), .ref (h 103), .int 0])), ((h 20), .inl ((cs 8), 2, .inr (.inr (.inr (.inr fi))))), ((h 21), .inr (8, [.ref (h 22), .int 0, .ref (h 23), .ref (h 24), .int 0, .ref (h 25), .int 0, .ref (h 26), .int 0, .ref (h 27), .int 0])), ((h 22), .inl ((cs 7), 4, .inr (.inr (.inr (.inr (fun _ => none)))))), ((h 23), .inl ((cs 9), 10, .inr (.inr (.inr (.inr (fun _ => none)))))), ((h 24), .inl ((cs 4), 100, .inr (.inr (.inr (.inr (fun _ => none)))))), ((h 25), .inl ((cs 2), 4, .inr (.inr (.inr (.inr (fun _ => none)))))), ((h 26), .inl ((cs 4), 3, .inr (.inr (.inr (.inr (fun _ => none)))))), ((h 27), .inl ((cs 0), 4, .inr (.inr (.inr (.inr f1))))), ((h 29), .inr (8, [.ref (h 30), .int 0, .ref (h 31), .ref (h 32), .int 0, .ref (h 33), .int 0, .ref (h 34), .int 0, .ref (h 35), .int 0])), ((h 30), .inl ((cs 7), 4, .inr (.inr (.inr (.inr (fun _ => none)))))), ((h 31), .inl ((cs 9), 10, .inr (.inr (.inr (.inr (fun _ => none)))))), ((h 32), .inl ((cs 4), 100, .inr (.inr (.inr (.inr (fun _ => none)))))), ((h 33), .inl ((cs 2), 4, .inr (.inr (.inr (.inr (fun _ => none)))))), ((h 34), .inl ((cs 4), 3, .inr (.inr (.inr (.inr (fun _ => none)))))), ((h 35), .inl ((cs 0), 4, .inr (.inr (.inr (.inr f2))))), ((h 37), .inl ((cs 14), 2, .inl zI0)), (o, .inl (cL, 1, .inr (.inl (fun _ => 0))))] sz) := by
  refine zOfWH (cc := cL_image) (maxL := 4) (ret := (some .int)) (by decide) rfl ?_
  intro p e s m args below meth c s₁ B hml hv
  obtain ⟨rfl, hNc, hEx, hsz, hP, hK, hD0⟩ := hv
  have hx := B.exec
  have hb := B.bytes
  have hr := B.returns
  have hts := atoms_spec (ws := (.codeWith yL_image cL_image 4 (some .int) [(0, 16, 19, 21)] :: zT)) B.pre
  have ht : ∀ w ∈ zT, w.before _ s = true := fun w h => hts w (List.mem_cons_of_mem _ h)
  have hown : s.vm.findClass RL = some m.cls := findClass_of_methodNamed B.named
  have hlocks := B.notSynchronized
  have hTab := vx_table (x := yL_image) B (hts _ List.mem_cons_self)
  subst hsz
  have hD := hD0.self (sz := s.heap.size)
  generalize hAe : va_A [((h 0), .inr (11, [.ref (h 1), .ref (h 9), .int 0, .int 0, .ref (h 20), .ref (h 37), .int 0, .ref (h 38), .ref (h 42), .ref (h 43), .ref (h 44), .ref (h 45), .ref (h 46), .ref (h 47), .ref (h 48)])), ((h 1), .inr (8, [.ref (h 2), .int 0, .ref (h 3), .ref (h 4), .int 0, .ref (h 5), .int 0, .ref (h 6), .int 0, .ref (h 7), .int 0])), ((h 2), .inl ((cs 7), 4, .inr (.inr (.inr (.inr (fun _ => none)))))), ((h 3), .inl ((cs 9), 10, .inr (.inr (.inr (.inr (fun _ => none)))))), ((h 4), .inl ((cs 4), 100, .inr (.inr (.inr (.inr (fun _ => none)))))), ((h 5), .inl ((cs 2), 4, .inr (.inr (.inr (.inr (fun _ => none)))))), ((h 6), .inl ((cs 4), 3, .inr (.inr (.inr (.inr (fun _ => none)))))), ((h 7), .inl ((cs 0), 4, .inr (.inr (.inr (.inr fn))))), ((h 8), .inr (0, [.ref (h 102), .ref (h 103), .int 0])), ((h 20), .inl ((cs 8), 2, .inr (.inr (.inr (.inr fi))))), ((h 21), .inr (8, [.ref (h 22), .int 0, .ref (h 23), .ref (h 24), .int 0, .ref (h 25), .int 0, .ref (h 26), .int 0, .ref (h 27), .int 0])), ((h 22), .inl ((cs 7), 4, .inr (.inr (.inr (.inr (fun _ => none)))))), ((h 23), .inl ((cs 9), 10, .inr (.inr (.inr (.inr (fun _ => none)))))), ((h 24), .inl ((cs 4), 100, .inr (.inr (.inr (.inr (fun _ => none)))))), ((h 25), .inl ((cs 2), 4, .inr (.inr (.inr (.inr (fun _ => none)))))), ((h 26), .inl ((cs 4), 3, .inr (.inr (.inr (.inr (fun _ => none)))))), ((h 27), .inl ((cs 0), 4, .inr (.inr (.inr (.inr f1))))), ((h 29), .inr (8, [.ref (h 30), .int 0, .ref (h 31), .ref (h 32), .int 0, .ref (h 33), .int 0, .ref (h 34), .int 0, .ref (h 35), .int 0])), ((h 30), .inl ((cs 7), 4, .inr (.inr (.inr (.inr (fun _ => none)))))), ((h 31), .inl ((cs 9), 10, .inr (.inr (.inr (.inr (fun _ => none)))))), ((h 32), .inl ((cs 4), 100, .inr (.inr (.inr (.inr (fun _ => none)))))), ((h 33), .inl ((cs 2), 4, .inr (.inr (.inr (.inr (fun _ => none)))))), ((h 34), .inl ((cs 4), 3, .inr (.inr (.inr (.inr (fun _ => none)))))), ((h 35), .inl ((cs 0), 4, .inr (.inr (.inr (.inr f2))))), ((h 37), .inl ((cs 14), 2, .inl zI0)), (o, .inl (cL, 1, .inr (.inl (fun _ => 0))))] s.heap.size = A at hD hEx ⊢
  have hA : ∀ q : Nat, s.heap.size ≤ q → A q := fun q h => by rw [← hAe]; exact Or.inr h
  have hS : va_S A s.heap s.heap [] := va_S.rf
  have hP : va_P D vwCl [((h 0), .inr (11, [.ref (h 1), .ref (h 9), .int 0, .int 0, .ref (h 20), .ref (h 37), .int 0, .ref (h 38), .ref (h 42), .ref (h 43), .ref (h 44), .ref (h 45), .ref (h 46), .ref (h 47), .ref (h 48)])), ((h 1), .inr (8, [.ref (h 2), .int 0, .ref (h 3), .ref (h 4), .int 0, .ref (h 5), .int 0, .ref (h 6), .int 0, .ref (h 7), .int 0])), ((h 2), .inl ((cs 7), 4, .inr (.inr (.inr (.inr (fun _ => none)))))), ((h 3), .inl ((cs 9), 10, .inr (.inr (.inr (.inr (fun _ => none)))))), ((h 4), .inl ((cs 4), 100, .inr (.inr (.inr (.inr (fun _ => none)))))), ((h 5), .inl ((cs 2), 4, .inr (.inr (.inr (.inr (fun _ => none)))))), ((h 6), .inl ((cs 4), 3, .inr (.inr (.inr (.inr (fun _ => none)))))), ((h 7), .inl ((cs 0), 4, .inr (.inr (.inr (.inr fn))))), ((h 8), .inr (0, [.ref (h 102), .ref (h 103), .int 0])), ((h 20), .inl ((cs 8), 2, .inr (.inr (.inr (.inr fi))))), ((h 21), .inr (8, [.ref (h 22), .int 0, .ref (h 23), .ref (h 24), .int 0, .ref (h 25), .int 0, .ref (h 26), .int 0, .ref (h 27), .int 0])), ((h 22), .inl ((cs 7), 4, .inr (.inr (.inr (.inr (fun _ => none)))))), ((h 23), .inl ((cs 9), 10, .inr (.inr (.inr (.inr (fun _ => none)))))), ((h 24), .inl ((cs 4), 100, .inr (.inr (.inr (.inr (fun _ => none)))))), ((h 25), .inl ((cs 2), 4, .inr (.inr (.inr (.inr (fun _ => none)))))), ((h 26), .inl ((cs 4), 3, .inr (.inr (.inr (.inr (fun _ => none)))))), ((h 27), .inl ((cs 0), 4, .inr (.inr (.inr (.inr f1))))), ((h 29), .inr (8, [.ref (h 30), .int 0, .ref (h 31), .ref (h 32), .int 0, .ref (h 33), .int 0, .ref (h 34), .int 0, .ref (h 35), .int 0])), ((h 30), .inl ((cs 7), 4, .inr (.inr (.inr (.inr (fun _ => none)))))), ((h 31), .inl ((cs 9), 10, .inr (.inr (.inr (.inr (fun _ => none)))))), ((h 32), .inl ((cs 4), 100, .inr (.inr (.inr (.inr (fun _ => none)))))), ((h 33), .inl ((cs 2), 4, .inr (.inr (.inr (.inr (fun _ => none)))))), ((h 34), .inl ((cs 4), 3, .inr (.inr (.inr (.inr (fun _ => none)))))), ((h 35), .inl ((cs 0), 4, .inr (.inr (.inr (.inr f2))))), ((h 37), .inl ((cs 14), 2, .inl zI0)), (o, .inl (cL, 1, .inr (.inl (fun _ => 0))))] s.heap := hP
  have hl := lv_entry ([.ref (h 0), .int p0, .ref o]) (n := 4) (Nat.le_of_ble_eq_true rfl)
  rw [lg_entry_eq]
  generalize (lg_sl ([.ref (h 0), .int p0, .ref o]) ++ List.replicate (4 - (lg_sl ([.ref (h 0), .int p0, .ref o])).length) Slot.unset).toArray = ls at hl ⊢
  have hl : lv_has ls 4 [(0, .ref (h 0)), (1, .int p0), (2, .ref o)] := hl
  skip
  refine lv_aload_n hx hb dL_image_0 rfl (lv_at hl 2 rfl) ?_
  refine lv_iconst (v := 0) hx hb dL_image_1 (by decide) ?_
  refine lv_aload_n hx hb dL_image_2 rfl (lv_at hl 0 rfl) ?_
  refine lv_iload_n hx hb dL_image_3 rfl (lv_at hl 1 rfl) ?_
  have hPc := hP.sub (ws' := [((h 0), .inr (11, [.ref (h 1), .ref (h 9), .int 0, .int 0, .ref (h 20), .ref (h 37), .int 0, .ref (h 38), .ref (h 42), .ref (h 43), .ref (h 44), .ref (h 45), .ref (h 46), .ref (h 47), .ref (h 48)])), ((h 1), .inr (8, [.ref (h 2), .int 0, .ref (h 3), .ref (h 4), .int 0, .ref (h 5), .int 0, .ref (h 6), .int 0, .ref (h 7), .int 0])), ((h 2), .inl ((cs 7), 4, .inr (.inr (.inr (.inr (fun _ => none)))))), ((h 3), .inl ((cs 9), 10, .inr (.inr (.inr (.inr (fun _ => none)))))), ((h 4), .inl ((cs 4), 100, .inr (.inr (.inr (.inr (fun _ => none)))))), ((h 5), .inl ((cs 2), 4, .inr (.inr (.inr (.inr (fun _ => none)))))), ((h 6), .inl ((cs 4), 3, .inr (.inr (.inr (.inr (fun _ => none)))))), ((h 7), .inl ((cs 0), 4, .inr (.inr (.inr (.inr fn))))), ((h 8), .inr (0, [.ref (h 102), .ref (h 103), .int 0])), ((h 20), .inl ((cs 8), 2, .inr (.inr (.inr (.inr fi))))), ((h 21), .inr (8, [.ref (h 22), .int 0, .ref (h 23), .ref (h 24), .int 0, .ref (h 25), .int 0, .ref (h 26), .int 0, .ref (h 27), .int 0])), ((h 22), .inl ((cs 7), 4, .inr (.inr (.inr (.inr (fun _ => none)))))), ((h 23), .inl ((cs 9), 10, .inr (.inr (.inr (.inr (fun _ => none)))))), ((h 24), .inl ((cs 4), 100, .inr (.inr (.inr (.inr (fun _ => none)))))), ((h 25), .inl ((cs 2), 4, .inr (.inr (.inr (.inr (fun _ => none)))))), ((h 26), .inl ((cs 4), 3, .inr (.inr (.inr (.inr (fun _ => none)))))), ((h 27), .inl ((cs 0), 4, .inr (.inr (.inr (.inr f1))))), ((h 29), .inr (8, [.ref (h 30), .int 0, .ref (h 31), .ref (h 32), .int 0, .ref (h 33), .int 0, .ref (h 34), .int 0, .ref (h 35), .int 0])), ((h 30), .inl ((cs 7), 4, .inr (.inr (.inr (.inr (fun _ => none)))))), ((h 31), .inl ((cs 9), 10, .inr (.inr (.inr (.inr (fun _ => none)))))), ((h 32), .inl ((cs 4), 100, .inr (.inr (.inr (.inr (fun _ => none)))))), ((h 33), .inl ((cs 2), 4, .inr (.inr (.inr (.inr (fun _ => none)))))), ((h 34), .inl ((cs 4), 3, .inr (.inr (.inr (.inr (fun _ => none)))))), ((h 35), .inl ((cs 0), 4, .inr (.inr (.inr (.inr f2))))), ((h 37), .inl ((cs 14), 2, .inl zI0))]) [0, 1, 2, 3, 4, 5, 6, 7, 8, 9, 10, 11, 12, 13, 14, 15, 16, 17, 18, 19, 20, 21, 22, 23, 24] rfl
  have hDc := hD.sub (ws' := [((h 0), .inr (11, [.ref (h 1), .ref (h 9), .int 0, .int 0, .ref (h 20), .ref (h 37), .int 0, .ref (h 38), .ref (h 42), .ref (h 43), .ref (h 44), .ref (h 45), .ref (h 46), .ref (h 47), .ref (h 48)])), ((h 1), .inr (8, [.ref (h 2), .int 0, .ref (h 3), .ref (h 4), .int 0, .ref (h 5), .int 0, .ref (h 6), .int 0, .ref (h 7), .int 0])), ((h 2), .inl ((cs 7), 4, .inr (.inr (.inr (.inr (fun _ => none)))))), ((h 3), .inl ((cs 9), 10, .inr (.inr (.inr (.inr (fun _ => none)))))), ((h 4), .inl ((cs 4), 100, .inr (.inr (.inr (.inr (fun _ => none)))))), ((h 5), .inl ((cs 2), 4, .inr (.inr (.inr (.inr (fun _ => none)))))), ((h 6), .inl ((cs 4), 3, .inr (.inr (.inr (.inr (fun _ => none)))))), ((h 7), .inl ((cs 0), 4, .inr (.inr (.inr (.inr fn))))), ((h 8), .inr (0, [.ref (h 102), .ref (h 103), .int 0])), ((h 20), .inl ((cs 8), 2, .inr (.inr (.inr (.inr fi))))), ((h 21), .inr (8, [.ref (h 22), .int 0, .ref (h 23), .ref (h 24), .int 0, .ref (h 25), .int 0, .ref (h 26), .int 0, .ref (h 27), .int 0])), ((h 22), .inl ((cs 7), 4, .inr (.inr (.inr (.inr (fun _ => none)))))), ((h 23), .inl ((cs 9), 10, .inr (.inr (.inr (.inr (fun _ => none)))))), ((h 24), .inl ((cs 4), 100, .inr (.inr (.inr (.inr (fun _ => none)))))), ((h 25), .inl ((cs 2), 4, .inr (.inr (.inr (.inr (fun _ => none)))))), ((h 26), .inl ((cs 4), 3, .inr (.inr (.inr (.inr (fun _ => none)))))), ((h 27), .inl ((cs 0), 4, .inr (.inr (.inr (.inr f1))))), ((h 29), .inr (8, [.ref (h 30), .int 0, .ref (h 31), .ref (h 32), .int 0, .ref (h 33), .int 0, .ref (h 34), .int 0, .ref (h 35), .int 0])), ((h 30), .inl ((cs 7), 4, .inr (.inr (.inr (.inr (fun _ => none)))))), ((h 31), .inl ((cs 9), 10, .inr (.inr (.inr (.inr (fun _ => none)))))), ((h 32), .inl ((cs 4), 100, .inr (.inr (.inr (.inr (fun _ => none)))))), ((h 33), .inl ((cs 2), 4, .inr (.inr (.inr (.inr (fun _ => none)))))), ((h 34), .inl ((cs 4), 3, .inr (.inr (.inr (.inr (fun _ => none)))))), ((h 35), .inl ((cs 0), 4, .inr (.inr (.inr (.inr f2))))), ((h 37), .inl ((cs 14), 2, .inl zI0))]) [0, 1, 2, 3, 4, 5, 6, 7, 8, 9, 10, 11, 12, 13, 14, 15, 16, 17, 18, 19, 20, 21, 22, 23, 24] (by decide) rfl
  have hKc := hK.sub (tys' := [((cs 7), .object RX7), ((cs 9), .object RX9), ((cs 4), .object RX4), ((cs 2), .object RX2), ((cs 0), .object RX0), ((cs 8), .object RX8), ((cs 14), .boolean)]) [0, 1, 2, 3, 4, 5, 6] rfl
  have hFc := va_free (wc := [((h 0), .inr (11, [.ref (h 1), .ref (h 9), .int 0, .int 0, .ref (h 20), .ref (h 37), .int 0, .ref (h 38), .ref (h 42), .ref (h 43), .ref (h 44), .ref (h 45), .ref (h 46), .ref (h 47), .ref (h 48)])), ((h 1), .inr (8, [.ref (h 2), .int 0, .ref (h 3), .ref (h 4), .int 0, .ref (h 5), .int 0, .ref (h 6), .int 0, .ref (h 7), .int 0])), ((h 2), .inl ((cs 7), 4, .inr (.inr (.inr (.inr (fun _ => none)))))), ((h 3), .inl ((cs 9), 10, .inr (.inr (.inr (.inr (fun _ => none)))))), ((h 4), .inl ((cs 4), 100, .inr (.inr (.inr (.inr (fun _ => none)))))), ((h 5), .inl ((cs 2), 4, .inr (.inr (.inr (.inr (fun _ => none)))))), ((h 6), .inl ((cs 4), 3, .inr (.inr (.inr (.inr (fun _ => none)))))), ((h 7), .inl ((cs 0), 4, .inr (.inr (.inr (.inr fn))))), ((h 8), .inr (0, [.ref (h 102), .ref (h 103), .int 0])), ((h 20), .inl ((cs 8), 2, .inr (.inr (.inr (.inr fi))))), ((h 21), .inr (8, [.ref (h 22), .int 0, .ref (h 23), .ref (h 24), .int 0, .ref (h 25), .int 0, .ref (h 26), .int 0, .ref (h 27), .int 0])), ((h 22), .inl ((cs 7), 4, .inr (.inr (.inr (.inr (fun _ => none)))))), ((h 23), .inl ((cs 9), 10, .inr (.inr (.inr (.inr (fun _ => none)))))), ((h 24), .inl ((cs 4), 100, .inr (.inr (.inr (.inr (fun _ => none)))))), ((h 25), .inl ((cs 2), 4, .inr (.inr (.inr (.inr (fun _ => none)))))), ((h 26), .inl ((cs 4), 3, .inr (.inr (.inr (.inr (fun _ => none)))))), ((h 27), .inl ((cs 0), 4, .inr (.inr (.inr (.inr f1))))), ((h 29), .inr (8, [.ref (h 30), .int 0, .ref (h 31), .ref (h 32), .int 0, .ref (h 33), .int 0, .ref (h 34), .int 0, .ref (h 35), .int 0])), ((h 30), .inl ((cs 7), 4, .inr (.inr (.inr (.inr (fun _ => none)))))), ((h 31), .inl ((cs 9), 10, .inr (.inr (.inr (.inr (fun _ => none)))))), ((h 32), .inl ((cs 4), 100, .inr (.inr (.inr (.inr (fun _ => none)))))), ((h 33), .inl ((cs 2), 4, .inr (.inr (.inr (.inr (fun _ => none)))))), ((h 34), .inl ((cs 4), 3, .inr (.inr (.inr (.inr (fun _ => none)))))), ((h 35), .inl ((cs 0), 4, .inr (.inr (.inr (.inr f2))))), ((h 37), .inl ((cs 14), 2, .inl zI0))]) hD hS hA [0, 1, 2, 3, 4, 5, 6, 7, 8, 9, 10, 11, 12, 13, 14, 15, 16, 17, 18, 19, 20, 21, 22, 23, 24] rfl
  refine vx_calli (vx_runV (As := [.int p0]) (rest := [.int 0, .ref o]) ⟨hx, hb, hml, hown, ht⟩ (k_X11_image l hl0 _ D h cs p0 fn hn fi f1 f2 hi0 hi1) (cwV 1 ht (zG_V zw_688 zw_689 zw_690 zw_404 zw_691) rfl rfl rfl (by decide +kernel) ⟨Nat.le_of_ble_eq_true rfl, Nat.le_of_ble_eq_true rfl⟩) (zW_V (va_recv hK hP (ci := 11) (q0 := 0) rfl rfl) hEx hS hFc hPc hKc hDc) rfl rfl hl.1 rfl (lv_room (Nat.le_of_ble_eq_true rfl)) dL_image_4 ⟨Nat.le_of_ble_eq_true rfl, Nat.le_of_ble_eq_true rfl⟩) hS (fun q _ h => hFc q h) hFc (fun q _ h => hFc q h) (fun E ce q9 uu t H1 locs1 ht0 hvm hpx hB hz1 hk1 hS hcell hv hcl => ?_) (fun r_1 u_1 t H1 locs ht0 hvm hw_1 hB hz1 hk1 hS => ?_)
  · skip
    obtain ⟨rfl, hb9⟩ := hB
    obtain ⟨hP, hD⟩ := va_join (wr := [(o, .inl (cL, 1, .inr (.inl (fun _ => 0))))]) (w1 := []) hP hD [0, 1, 2, 3, 4, 5, 6, 7, 8, 9, 10, 11, 12, 13, 14, 15, 16, 17, 18, 19, 20, 21, 22, 23, 24] [25] rfl rfl (by decide) (by decide) hk1 hFc zP_nil zD_nil
    refine vx_catch (name := "java/lang/IndexOutOfBoundsException") hown [] ⟨0, 16, 19, 21⟩ [] hTab ((fun _ h => nomatch h)) (by decide) (by decide) (ht _ zw_597) (va_Nw.use rfl (hEx.1.2.2.2.1 "java/lang/IndexOutOfBoundsException" (by decide))) hcell hv hcl ?_
    generalize H1 = H at hP hS ⊢
    have hP : va_P D vwCl [(o, .inl (cL, 1, .inr (.inl (fun _ => 0))))] H := hP
    have hD : va_D A [(o, .inl (cL, 1, .inr (.inl (fun _ => 0))))] := hD
    refine W.widen (k := 1) (n := 6) (Nat.le_of_ble_eq_true rfl) (Nat.le_of_ble_eq_true rfl) ?_
    refine lv_astore_n (lv' := [(3, .ref q9), (0, .ref (h 0)), (1, .int p0), (2, .ref o)]) hx hb dL_image_19 rfl hl (by decide) rfl (fun ls hl => ?_)
    refine lv_iconst (v := 1) hx hb dL_image_20 (by decide) ?_
    have hP9 := hP.sub (ws' := [(o, .inl (cL, 1, .inr (.inl (fun _ => 0))))]) [0] rfl
    have hD9 := hD.sub (ws' := [(o, .inl (cL, 1, .inr (.inl (fun _ => 0))))]) [0] (by decide) rfl
    have hK9 := hK.sub (tys' := []) [] rfl
    refine W.widen (k := 1) (n := 6) (Nat.le_of_ble_eq_true rfl) (Nat.le_of_ble_eq_true rfl) ?_
    exact W.iret (v := 1) hx hb hr (fun t ht0 hW => ⟨⟨1, 0, rfl, hb9, (fun _ => 0), rfl, zE_of hP9 hK9 hD9 ht0 hW⟩, hS.F ht0⟩) hS.2.2 dL_image_21
  obtain ⟨hP1, hK1, hD1⟩ := hB
  rw [ht0] at hP1
  have hK1 := va_K.moved hvm.symm hK1
  obtain ⟨hP, hD⟩ := va_join (wr := [(o, .inl (cL, 1, .inr (.inl (fun _ => 0))))]) (w1 := []) hP hD [0, 1, 2, 3, 4, 5, 6, 7, 8, 9, 10, 11, 12, 13, 14, 15, 16, 17, 18, 19, 20, 21, 22, 23, 24] [25] rfl rfl (by decide) (by decide) hk1 hFc hP1 hD1
  generalize H1 = H at hP hS ⊢
  have hP : va_P D vwCl [(o, .inl (cL, 1, .inr (.inl (fun _ => 0))))] H := hP
  have hD : va_D A [(o, .inl (cL, 1, .inr (.inl (fun _ => 0))))] := hD
  refine W.widen (k := 1) (n := 6) (Nat.le_of_ble_eq_true rfl) (Nat.le_of_ble_eq_true rfl) ?_
  refine lv_if_eq (tgt := 14) hx hb dL_image_7 (by decide) (fun c_2 => ?_) (fun c_2 => ?_)
  · skip
    simp only [fa_lt, fa_le, fa_eq, Int32.reduceToInt] at c_2
    refine lv_lconst (v := 0) hx hb dL_image_14 (by decide) ?_
    refine va_last hx hb hK hP hD hS 0 7 rfl rfl (vp_in_iff.mpr (by decide)) dL_image_15 (fun H locs hP hD hS => ?_)
    have hP : va_P D vwCl [(o, .inl (cL, 1, .inr (.inl (vp_updL (fun _ => 0) 0 0))))] H := hP
    have hD : va_D A [(o, .inl (cL, 1, .inr (.inl (vp_updL (fun _ => 0) 0 0))))] := hD
    refine lv_goto (tgt := 22) hx hb dL_image_16 (by decide) ?_
    refine lv_iconst (v := 0) hx hb dL_image_22 (by decide) ?_
    have hP9 := hP.sub (ws' := [(o, .inl (cL, 1, .inr (.inl (vp_updL (fun _ => 0) 0 0))))]) [0] rfl
    have hD9 := hD.sub (ws' := [(o, .inl (cL, 1, .inr (.inl (vp_updL (fun _ => 0) 0 0))))]) [0] (by decide) rfl
    have hK9 := hK.sub (tys' := []) [] rfl
    refine W.widen (k := 1) (n := 6) (Nat.le_of_ble_eq_true rfl) (Nat.le_of_ble_eq_true rfl) ?_
    exact W.iret (v := 0) hx hb hr (fun t ht0 hW => ⟨⟨0, r_1, rfl, hw_1, (vp_updL (fun _ => 0) 0 0), (by rw [show r_1 = 0 from Int32.toInt_inj.mp (show r_1.toInt = (0 : Int32).toInt by rw [c_2]; rfl)]; rfl), zE_of hP9 hK9 hD9 ht0 hW⟩, hS.F ht0⟩) hS.2.2 dL_image_23
  · skip
    simp only [fa_lt, fa_le, fa_eq, Int32.reduceToInt] at c_2
    exfalso; apply c_2
    unfold zS_image at hw_1
    rcases hw_1 with ⟨h9, -⟩ | ⟨-, -, h9⟩
    · exact absurd h9 (by decide)
    · rw [h9]; rfl
set_option maxHeartbeats 4000000 in
set_option maxRecDepth 100000 in
theorem k_L_type (l : Launch) (hl0 : l.stackTraces = false) (sz : Nat) (D : va_G) (h cs : Nat → Nat) (p0 : Int64) (o : Nat) (cL : ClassId) : Met l yL_type (.codeWith yL_type cL_type 5 (some .int) [(0, 9, 12, 15)] :: zT) ({ frames := 2, cells := 0, slots := 0, locals := 46 }) (va_Pc [.ref (h 0), .long p0, .ref o] (zY D [((h 0), .inr (11, [.ref (h 1), .ref (h 9), .int 0, .int 0, .ref (h 20), .ref (h 37), .int 0, .ref (h 38), .ref (h 42), .ref (h 43), .ref (h 44), .ref (h 45), .ref (h 46), .ref (h 47), .ref (h 48)])), ((h 38), .inr (10, [.ref (h 39), .int 0, .ref (h 40), .int 0, .ref (h 80), .int 0, .int 0])), ((h 39), .inl ((cs 13), 200, .inl zI0)), (o, .inl (cL, 1, .inr (.inl (fun _ => 0))))] [((cs 13), .int), (cL, .long)] sz)) (va_Qi (fun (r u : Int32) => r = 0 ∧ u = zN p0 8) (fun u t => ∃ g2 : Nat → Int64, g2 0 = u.toInt64 ∧ zE D [(o, .inl (cL, 1, .inr (.inl g2)))] [] (va_A [((h 0), .inr (11, [.ref (h 1), .ref (h 9), .int 0, .int 0, .ref (h 20), .ref (h 37), .int 0, .ref (h 38), .ref (h 42), .ref (h 43), .ref (h 44), .ref (h 45), .ref (h 46), .ref (h 47), .ref (h 48)])), ((h 38), .inr (10, [.ref (h 39), .int 0, .ref (h 40), .int 0, .ref (h 80), .int 0, .int 0])), ((h 39), .inl ((cs 13), 200, .inl zI0)), (o, .inl (cL, 1, .inr (.inl (fun _ => 0))))] sz) t) (va_A [((h 0), .inr (11, [.ref (h 1), .ref (h 9), .int 0, .int 0, .ref (h 20), .ref (h 37), .int 0, .ref (h 38), .ref (h 42), .ref (h 43), .ref (h 44), .ref (h 45), .ref (h 46), .ref (h 47), .ref (h 48)])), ((h 38), .inr (10, [.ref (h 39), .int 0, .ref (h 40), .int 0, .ref (h 80), .int 0, .int 0])), ((h 39), .inl ((cs 13), 200, .inl zI0)), (o, .inl (cL, 1, .inr (.inl (fun _ => 0))))] sz)) 0 0 (va_A [((h 0), .inr (11, [.ref (h 1), .ref (h 9), .int 0, .int 0, .ref (h 20), .ref (h 37), .int 0, .ref (h 38), .ref (h 42), .ref (h 43), .ref (h 44), .ref (h 45), .ref (h 46), .ref (h 47), .ref (h 48)])), ((h 38), .inr (10, [.ref (h 39), .int 0, .ref (h 40), .int 0, .ref (h 80), .int 0, .int 0])), ((h 39), .inl ((cs 13), 200, .inl zI0)), (o, .inl (cL, 1, .inr (.inl (fun _ => 0))))] sz) := by
  refine zOfWH (cc := cL_type) (maxL := 5) (ret := (some .int)) (by decide) rfl ?_
  intro p e s m args below meth c s₁ B hml hv
  obtain ⟨rfl, hNc, hEx, hsz, hP, hK, hD0⟩ := hv
  have hx := B.exec
  have hb := B.bytes
  have hr := B.returns
  have hts := atoms_spec (ws := (.codeWith yL_type cL_type 5 (some .int) [(0, 9, 12, 15)] :: zT)) B.pre
  have ht : ∀ w ∈ zT, w.before _ s = true := fun w h => hts w (List.mem_cons_of_mem _ h)
  have hown : s.vm.findClass RL = some m.cls := findClass_of_methodNamed B.named
  have hlocks := B.notSynchronized
  have hTab := vx_table (x := yL_type) B (hts _ List.mem_cons_self)
  subst hsz
  have hD := hD0.self (sz := s.heap.size)
  generalize hAe : va_A [((h 0), .inr (11, [.ref (h 1), .ref (h 9), .int 0, .int 0, .ref (h 20), .ref (h 37), .int 0, .ref (h 38), .ref (h 42), .ref (h 43), .ref (h 44), .ref (h 45), .ref (h 46), .ref (h 47), .ref (h 48)])), ((h 38), .inr (10, [.ref (h 39), .int 0, .ref (h 40), .int 0, .ref (h 80), .int 0, .int 0])), ((h 39), .inl ((cs 13), 200, .inl zI0)), (o, .inl (cL, 1, .inr (.inl (fun _ => 0))))] s.heap.size = A at hD hEx ⊢
  have hA : ∀ q : Nat, s.heap.size ≤ q → A q := fun q h => by rw [← hAe]; exact Or.inr h
  have hS : va_S A s.heap s.heap [] := va_S.rf
  have hP : va_P D vwCl [((h 0), .inr (11, [.ref (h 1), .ref (h 9), .int 0, .int 0, .ref (h 20), .ref (h 37), .int 0, .ref (h 38), .ref (h 42), .ref (h 43), .ref (h 44), .ref (h 45), .ref (h 46), .ref (h 47), .ref (h 48)])), ((h 38), .inr (10, [.ref (h 39), .int 0, .ref (h 40), .int 0, .ref (h 80), .int 0, .int 0])), ((h 39), .inl ((cs 13), 200, .inl zI0)), (o, .inl (cL, 1, .inr (.inl (fun _ => 0))))] s.heap := hP
  have hl := lv_entry ([.ref (h 0), .long p0, .ref o]) (n := 5) (Nat.le_of_ble_eq_true rfl)
  rw [lg_entry_eq]
  generalize (lg_sl ([.ref (h 0), .long p0, .ref o]) ++ List.replicate (5 - (lg_sl ([.ref (h 0), .long p0, .ref o])).length) Slot.unset).toArray = ls at hl ⊢
  have hl : lv_has ls 5 [(0, .ref (h 0)), (1, .long p0), (3, .ref o)] := hl
  skip
  refine lv_aload_n hx hb dL_type_0 rfl (lv_at hl 2 rfl) ?_
  refine lv_iconst (v := 0) hx hb dL_type_1 (by decide) ?_
  refine lv_aload_n hx hb dL_type_2 rfl (lv_at hl 0 rfl) ?_
  refine lv_lload_n hx hb dL_type_3 rfl (lv_at hl 1 rfl) ?_
  have hPc := hP.sub (ws' := [((h 0), .inr (11, [.ref (h 1), .ref (h 9), .int 0, .int 0, .ref (h 20), .ref (h 37), .int 0, .ref (h 38), .ref (h 42), .ref (h 43), .ref (h 44), .ref (h 45), .ref (h 46), .ref (h 47), .ref (h 48)])), ((h 38), .inr (10, [.ref (h 39), .int 0, .ref (h 40), .int 0, .ref (h 80), .int 0, .int 0])), ((h 39), .inl ((cs 13), 200, .inl zI0))]) [0, 1, 2] rfl
  have hDc := hD.sub (ws' := [((h 0), .inr (11, [.ref (h 1), .ref (h 9), .int 0, .int 0, .ref (h 20), .ref (h 37), .int 0, .ref (h 38), .ref (h 42), .ref (h 43), .ref (h 44), .ref (h 45), .ref (h 46), .ref (h 47), .ref (h 48)])), ((h 38), .inr (10, [.ref (h 39), .int 0, .ref (h 40), .int 0, .ref (h 80), .int 0, .int 0])), ((h 39), .inl ((cs 13), 200, .inl zI0))]) [0, 1, 2] (by decide) rfl
  have hKc := hK.sub (tys' := [((cs 13), .int)]) [0] rfl
  have hFc := va_free (wc := [((h 0), .inr (11, [.ref (h 1), .ref (h 9), .int 0, .int 0, .ref (h 20), .ref (h 37), .int 0, .ref (h 38), .ref (h 42), .ref (h 43), .ref (h 44), .ref (h 45), .ref (h 46), .ref (h 47), .ref (h 48)])), ((h 38), .inr (10, [.ref (h 39), .int 0, .ref (h 40), .int 0, .ref (h 80), .int 0, .int 0])), ((h 39), .inl ((cs 13), 200, .inl zI0))]) hD hS hA [0, 1, 2] rfl
  refine vx_calli (vx_runV (As := [.long p0]) (rest := [.int 0, .ref o]) ⟨hx, hb, hml, hown, ht⟩ (k_X11_type l hl0 _ D h cs p0) (cwV 1 ht (zG_V zw_692 zw_693 zw_694 zw_404 zw_695) rfl rfl rfl (by decide +kernel) ⟨Nat.le_of_ble_eq_true rfl, Nat.le_of_ble_eq_true rfl⟩) (zW_V (va_recv hK hP (ci := 11) (q0 := 0) rfl rfl) hEx hS hFc hPc hKc hDc) rfl rfl hl.1 rfl (lv_room (Nat.le_of_ble_eq_true rfl)) dL_type_4 ⟨Nat.le_of_ble_eq_true rfl, Nat.le_of_ble_eq_true rfl⟩) hS (fun q _ h => hFc q h) hFc (fun q _ h => hFc q h) (fun E ce q9 uu t H1 locs1 ht0 hvm hpx hB hz1 hk1 hS hcell hv hcl => ?_) (fun r_1 u_1 t H1 locs ht0 hvm hw_1 hB hz1 hk1 hS => ?_)
  · skip
    exact hB.elim
  obtain ⟨hP1, hK1, hD1⟩ := hB
  rw [ht0] at hP1
  have hK1 := va_K.moved hvm.symm hK1
  obtain ⟨hP, hD⟩ := va_join (wr := [(o, .inl (cL, 1, .inr (.inl (fun _ => 0))))]) (w1 := []) hP hD [0, 1, 2] [3] rfl rfl (by decide) (by decide) hk1 hFc hP1 hD1
  generalize H1 = H at hP hS ⊢
  have hP : va_P D vwCl [(o, .inl (cL, 1, .inr (.inl (fun _ => 0))))] H := hP
  have hD : va_D A [(o, .inl (cL, 1, .inr (.inl (fun _ => 0))))] := hD
  refine lv_i2l (v := (r_1).toInt64) hx hb dL_type_7 rfl ?_
  refine va_last hx hb hK hP hD hS 0 1 rfl rfl (vp_in_iff.mpr (by decide)) dL_type_8 (fun H locs hP hD hS => ?_)
  have hP : va_P D vwCl [(o, .inl (cL, 1, .inr (.inl (vp_updL (fun _ => 0) 0 ((r_1).toInt64)))))] H := hP
  have hD : va_D A [(o, .inl (cL, 1, .inr (.inl (vp_updL (fun _ => 0) 0 ((r_1).toInt64)))))] := hD
  refine lv_goto (tgt := 16) hx hb dL_type_9 (by decide) ?_
  refine lv_iconst (v := 0) hx hb dL_type_16 (by decide) ?_
  have hP9 := hP.sub (ws' := [(o, .inl (cL, 1, .inr (.inl (vp_updL (fun _ => 0) 0 ((r_1).toInt64)))))]) [0] rfl
  have hD9 := hD.sub (ws' := [(o, .inl (cL, 1, .inr (.inl (vp_updL (fun _ => 0) 0 ((r_1).toInt64)))))]) [0] (by decide) rfl
  have hK9 := hK.sub (tys' := []) [] rfl
  refine W.widen (k := 0) (n := 0) (Nat.le_of_ble_eq_true rfl) (Nat.le_of_ble_eq_true rfl) ?_
  exact W.iret (v := 0) hx hb hr (fun t ht0 hW => ⟨⟨0, r_1, rfl, ⟨rfl, hw_1⟩, (vp_updL (fun _ => 0) 0 ((r_1).toInt64)), (by simp [vp_updL]), zE_of hP9 hK9 hD9 ht0 hW⟩, hS.F ht0⟩) hS.2.2 dL_type_17
set_option maxHeartbeats 4000000 in
set_option maxRecDepth 100000 in
theorem k_L_write (l : Launch) (hl0 : l.stackTraces = false) (sz : Nat) (D : va_G) (h cs : Nat → Nat) (p0 : Int32) (o : Nat) (cL : ClassId) : Met l yL_write (.codeWith yL_write cL_write 4 (some .int) [(0, 9, 12, 21), (0, 9, 15, 15)] :: zT) ({ frames := 8, cells := 2, slots := 12, locals := 134 }) (va_Pc [.ref (h 0), .int p0, .ref o] (zY D [((h 0), .inr (11, [.ref (h 1), .ref (h 9), .int 0, .int 0, .ref (h 20), .ref (h 37), .int 0, .ref (h 38), .ref (h 42), .ref (h 43), .ref (h 44), .ref (h 45), .ref (h 46), .ref (h 47), .ref (h 48)])), ((h 1), .inr (8, [.ref (h 2), .int 0, .ref (h 3), .ref (h 4), .int 0, .ref (h 5), .int 0, .ref (h 6), .int 0, .ref (h 7), .int 0])), ((h 3), .inl ((cs 9), 10, .inr (.inr (.inr (.inr (fun _ => none)))))), (o, .inl (cL, 1, .inr (.inl (fun _ => 0))))] [((cs 9), .object RX9), (cL, .long)] sz)) (va_Qi (fun (r u : Int32) => zS_write p0 r u) (fun u t => ∃ g2 : Nat → Int64, g2 0 = u.toInt64 ∧ zE D [(o, .inl (cL, 1, .inr (.inl g2)))] [] (va_A [((h 0), .inr (11, [.ref (h 1), .ref (h 9), .int 0, .int 0, .ref (h 20), .ref (h 37), .int 0, .ref (h 38), .ref (h 42), .ref (h 43), .ref (h 44), .ref (h 45), .ref (h 46), .ref (h 47), .ref (h 48)])), ((h 1), .inr (8, [.ref (h 2), .int 0, .ref (h 3), .ref (h 4), .int 0, .ref (h 5), .int 0, .ref (h 6), .int 0, .ref (h 7), .int 0])), ((h 3), .inl ((cs 9), 10, .inr (.inr (.inr (.inr (fun _ => none)))))), (o, .inl (cL, 1, .inr (.inl (fun _ => 0))))] sz) t) (va_A [((h 0), .inr (11, [.ref (h 1), .ref (h 9), .int 0, .int 0, .ref (h 20), .ref (h 37), .int 0, .ref (h 38), .ref (h 42), .ref (h 43), .ref (h 44), .ref (h 45), .ref (h 46), .ref (h 47), .ref (h 48)])), ((h 1), .inr (8, [.ref (h 2), .int 0, .ref (h 3), .ref (h 4), .int 0, .ref (h 5), .int 0, .ref (h 6), .int 0, .ref (h 7), .int 0])), ((h 3), .inl ((cs 9), 10, .inr (.inr (.inr (.inr (fun _ => none)))))), (o, .inl (cL, 1, .inr (.inl (fun _ => 0))))] sz)) 2 12 (va_A [((h 0), .inr (11, [.ref (h 1), .ref (h 9), .int 0, .int 0, .ref (h 20), .ref (h 37), .int 0, .ref (h 38), .ref (h 42), .ref (h 43), .ref (h 44), .ref (h 45), .ref (h 46), .ref (h 47), .ref (h 48)])), ((h 1), .inr (8, [.ref (h 2), .int 0, .ref (h 3), .ref (h 4), .int 0, .ref (h 5), .int 0, .ref (h 6), .int 0, .ref (h 7), .int 0])), ((h 3), .inl ((cs 9), 10, .inr (.inr (.inr (.inr (fun _ => none)))))), (o, .inl (cL, 1, .inr (.inl (fun _ => 0))))] sz) := by
  refine zOfWH (cc := cL_write) (maxL := 4) (ret := (some .int)) (by decide) rfl ?_
  intro p e s m args below meth c s₁ B hml hv
  obtain ⟨rfl, hNc, hEx, hsz, hP, hK, hD0⟩ := hv
  have hx := B.exec
  have hb := B.bytes
  have hr := B.returns
  have hts := atoms_spec (ws := (.codeWith yL_write cL_write 4 (some .int) [(0, 9, 12, 21), (0, 9, 15, 15)] :: zT)) B.pre
  have ht : ∀ w ∈ zT, w.before _ s = true := fun w h => hts w (List.mem_cons_of_mem _ h)
  have hown : s.vm.findClass RL = some m.cls := findClass_of_methodNamed B.named
  have hlocks := B.notSynchronized
  have hTab := vx_table (x := yL_write) B (hts _ List.mem_cons_self)
  subst hsz
  have hD := hD0.self (sz := s.heap.size)
  generalize hAe : va_A [((h 0), .inr (11, [.ref (h 1), .ref (h 9), .int 0, .int 0, .ref (h 20), .ref (h 37), .int 0, .ref (h 38), .ref (h 42), .ref (h 43), .ref (h 44), .ref (h 45), .ref (h 46), .ref (h 47), .ref (h 48)])), ((h 1), .inr (8, [.ref (h 2), .int 0, .ref (h 3), .ref (h 4), .int 0, .ref (h 5), .int 0, .ref (h 6), .int 0, .ref (h 7), .int 0])), ((h 3), .inl ((cs 9), 10, .inr (.inr (.inr (.inr (fun _ => none)))))), (o, .inl (cL, 1, .inr (.inl (fun _ => 0))))] s.heap.size = A at hD hEx ⊢
  have hA : ∀ q : Nat, s.heap.size ≤ q → A q := fun q h => by rw [← hAe]; exact Or.inr h
  have hS : va_S A s.heap s.heap [] := va_S.rf
  have hP : va_P D vwCl [((h 0), .inr (11, [.ref (h 1), .ref (h 9), .int 0, .int 0, .ref (h 20), .ref (h 37), .int 0, .ref (h 38), .ref (h 42), .ref (h 43), .ref (h 44), .ref (h 45), .ref (h 46), .ref (h 47), .ref (h 48)])), ((h 1), .inr (8, [.ref (h 2), .int 0, .ref (h 3), .ref (h 4), .int 0, .ref (h 5), .int 0, .ref (h 6), .int 0, .ref (h 7), .int 0])), ((h 3), .inl ((cs 9), 10, .inr (.inr (.inr (.inr (fun _ => none)))))), (o, .inl (cL, 1, .inr (.inl (fun _ => 0))))] s.heap := hP
  have hl := lv_entry ([.ref (h 0), .int p0, .ref o]) (n := 4) (Nat.le_of_ble_eq_true rfl)
  rw [lg_entry_eq]
  generalize (lg_sl ([.ref (h 0), .int p0, .ref o]) ++ List.replicate (4 - (lg_sl ([.ref (h 0), .int p0, .ref o])).length) Slot.unset).toArray = ls at hl ⊢
  have hl : lv_has ls 4 [(0, .ref (h 0)), (1, .int p0), (2, .ref o)] := hl
  skip
  refine lv_aload_n hx hb dL_write_0 rfl (lv_at hl 2 rfl) ?_
  refine lv_iconst (v := 0) hx hb dL_write_1 (by decide) ?_
  refine lv_aload_n hx hb dL_write_2 rfl (lv_at hl 0 rfl) ?_
  refine lv_iload_n hx hb dL_write_3 rfl (lv_at hl 1 rfl) ?_
  have hPc := hP.sub (ws' := [((h 0), .inr (11, [.ref (h 1), .ref (h 9), .int 0, .int 0, .ref (h 20), .ref (h 37), .int 0, .ref (h 38), .ref (h 42), .ref (h 43), .ref (h 44), .ref (h 45), .ref (h 46), .ref (h 47), .ref (h 48)])), ((h 1), .inr (8, [.ref (h 2), .int 0, .ref (h 3), .ref (h 4), .int 0, .ref (h 5), .int 0, .ref (h 6), .int 0, .ref (h 7), .int 0])), ((h 3), .inl ((cs 9), 10, .inr (.inr (.inr (.inr (fun _ => none))))))]) [0, 1, 2] rfl
  have hDc := hD.sub (ws' := [((h 0), .inr (11, [.ref (h 1), .ref (h 9), .int 0, .int 0, .ref (h 20), .ref (h 37), .int 0, .ref (h 38), .ref (h 42), .ref (h 43), .ref (h 44), .ref (h 45), .ref (h 46), .ref (h 47), .ref (h 48)])), ((h 1), .inr (8, [.ref (h 2), .int 0, .ref (h 3), .ref (h 4), .int 0, .ref (h 5), .int 0, .ref (h 6), .int 0, .ref (h 7), .int 0])), ((h 3), .inl ((cs 9), 10, .inr (.inr (.inr (.inr (fun _ => none))))))]) [0, 1, 2] (by decide) rfl
  have hKc := hK.sub (tys' := [((cs 9), .object RX9)]) [0] rfl
  have hFc := va_free (wc := [((h 0), .inr (11, [.ref (h 1), .ref (h 9), .int 0, .int 0, .ref (h 20), .ref (h 37), .int 0, .ref (h 38), .ref (h 42), .ref (h 43), .ref (h 44), .ref (h 45), .ref (h 46), .ref (h 47), .ref (h 48)])), ((h 1), .inr (8, [.ref (h 2), .int 0, .ref (h 3), .ref (h 4), .int 0, .ref (h 5), .int 0, .ref (h 6), .int 0, .ref (h 7), .int 0])), ((h 3), .inl ((cs 9), 10, .inr (.inr (.inr (.inr (fun _ => none))))))]) hD hS hA [0, 1, 2] rfl
  refine vx_calli (vx_runV (As := [.int p0]) (rest := [.int 0, .ref o]) ⟨hx, hb, hml, hown, ht⟩ (k_X11_write l hl0 _ D h cs p0) (cwV 1 ht (zG_V zw_696 zw_697 zw_698 zw_404 zw_699) rfl rfl rfl (by decide +kernel) ⟨Nat.le_of_ble_eq_true rfl, Nat.le_of_ble_eq_true rfl⟩) (zW_V (va_recv hK hP (ci := 11) (q0 := 0) rfl rfl) hEx hS hFc hPc hKc hDc) rfl rfl hl.1 rfl (lv_room (Nat.le_of_ble_eq_true rfl)) dL_write_4 ⟨Nat.le_of_ble_eq_true rfl, Nat.le_of_ble_eq_true rfl⟩) hS (fun q _ h => hFc q h) hFc (fun q _ h => hFc q h) (fun E ce q9 uu t H1 locs1 ht0 hvm hpx hB hz1 hk1 hS hcell hv hcl => ?_) (fun r_1 u_1 t H1 locs ht0 hvm hw_1 hB hz1 hk1 hS => ?_)
  · skip
    rcases hB with ⟨rfl, hb9⟩ | ⟨rfl, hb9⟩
    · skip
      obtain ⟨hP, hD⟩ := va_join (wr := [(o, .inl (cL, 1, .inr (.inl (fun _ => 0))))]) (w1 := []) hP hD [0, 1, 2] [3] rfl rfl (by decide) (by decide) hk1 hFc zP_nil zD_nil
      refine vx_catch (name := "java/lang/IndexOutOfBoundsException") hown [] ⟨0, 9, 12, 21⟩ [⟨0, 9, 15, 15⟩] hTab ((fun _ h => nomatch h)) (by decide) (by decide) (ht _ zw_597) (va_Nw.use rfl (hEx.1.2.2.2.1 "java/lang/IndexOutOfBoundsException" (by decide))) hcell hv hcl ?_
      generalize H1 = H at hP hS ⊢
      have hP : va_P D vwCl [(o, .inl (cL, 1, .inr (.inl (fun _ => 0))))] H := hP
      have hD : va_D A [(o, .inl (cL, 1, .inr (.inl (fun _ => 0))))] := hD
      refine W.widen (k := 2) (n := 12) (Nat.le_of_ble_eq_true rfl) (Nat.le_of_ble_eq_true rfl) ?_
      refine lv_astore_n (lv' := [(3, .ref q9), (0, .ref (h 0)), (1, .int p0), (2, .ref o)]) hx hb dL_write_12 rfl hl (by decide) rfl (fun ls hl => ?_)
      refine lv_iconst (v := 1) hx hb dL_write_13 (by decide) ?_
      have hP9 := hP.sub (ws' := [(o, .inl (cL, 1, .inr (.inl (fun _ => 0))))]) [0] rfl
      have hD9 := hD.sub (ws' := [(o, .inl (cL, 1, .inr (.inl (fun _ => 0))))]) [0] (by decide) rfl
      have hK9 := hK.sub (tys' := []) [] rfl
      refine W.widen (k := 2) (n := 12) (Nat.le_of_ble_eq_true rfl) (Nat.le_of_ble_eq_true rfl) ?_
      exact W.iret (v := 1) hx hb hr (fun t ht0 hW => ⟨⟨1, 0, rfl, hb9, (fun _ => 0), rfl, zE_of hP9 hK9 hD9 ht0 hW⟩, hS.F ht0⟩) hS.2.2 dL_write_14
    · skip
      obtain ⟨hP, hD⟩ := va_join (wr := [(o, .inl (cL, 1, .inr (.inl (fun _ => 0))))]) (w1 := []) hP hD [0, 1, 2] [3] rfl rfl (by decide) (by decide) hk1 hFc zP_nil zD_nil
      refine vx_catch (name := "java/lang/IllegalStateException") hown [⟨0, 9, 12, 21⟩] ⟨0, 9, 15, 15⟩ [] hTab (List.forall_mem_cons.mpr ⟨.inr ⟨by decide, "java/lang/IndexOutOfBoundsException", ht _ zw_597, hNc ("java/lang/IllegalStateException", "java/lang/IndexOutOfBoundsException") (by decide)⟩, (fun _ h => nomatch h)⟩) (by decide) (by decide) (ht _ zw_610) (va_Nw.use rfl (hEx.1.2.2.2.1 "java/lang/IllegalStateException" (by decide))) hcell hv hcl ?_
      generalize H1 = H at hP hS ⊢
      have hP : va_P D vwCl [(o, .inl (cL, 1, .inr (.inl (fun _ => 0))))] H := hP
      have hD : va_D A [(o, .inl (cL, 1, .inr (.inl (fun _ => 0))))] := hD
      refine W.widen (k := 2) (n := 12) (Nat.le_of_ble_eq_true rfl) (Nat.le_of_ble_eq_true rfl) ?_
      refine lv_astore_n (lv' := [(3, .ref q9), (0, .ref (h 0)), (1, .int p0), (2, .ref o)]) hx hb dL_write_15 rfl hl (by decide) rfl (fun ls hl => ?_)
      refine lv_iconst (v := 2) hx hb dL_write_16 (by decide) ?_
      have hP9 := hP.sub (ws' := [(o, .inl (cL, 1, .inr (.inl (fun _ => 0))))]) [0] rfl
      have hD9 := hD.sub (ws' := [(o, .inl (cL, 1, .inr (.inl (fun _ => 0))))]) [0] (by decide) rfl
      have hK9 := hK.sub (tys' := []) [] rfl
      refine W.widen (k := 2) (n := 12) (Nat.le_of_ble_eq_true rfl) (Nat.le_of_ble_eq_true rfl) ?_
      exact W.iret (v := 2) hx hb hr (fun t ht0 hW => ⟨⟨2, 0, rfl, hb9, (fun _ => 0), rfl, zE_of hP9 hK9 hD9 ht0 hW⟩, hS.F ht0⟩) hS.2.2 dL_write_17
  obtain ⟨hP1, hK1, hD1⟩ := hB
  rw [ht0] at hP1
  have hK1 := va_K.moved hvm.symm hK1
  obtain ⟨hP, hD⟩ := va_join (wr := [(o, .inl (cL, 1, .inr (.inl (fun _ => 0))))]) (w1 := []) hP hD [0, 1, 2] [3] rfl rfl (by decide) (by decide) hk1 hFc hP1 hD1
  generalize H1 = H at hP hS ⊢
  have hP : va_P D vwCl [(o, .inl (cL, 1, .inr (.inl (fun _ => 0))))] H := hP
  have hD : va_D A [(o, .inl (cL, 1, .inr (.inl (fun _ => 0))))] := hD
  refine W.widen (k := 2) (n := 12) (Nat.le_of_ble_eq_true rfl) (Nat.le_of_ble_eq_true rfl) ?_
  exfalso
  unfold zS_write at hw_1
  rcases hw_1 with ⟨h9, -⟩ | ⟨h9, -⟩
  · exact absurd h9 (by decide)
  · exact absurd h9 (by decide)
set_option maxHeartbeats 4000000 in
set_option maxRecDepth 100000 in
theorem k_L_writeLaw (l : Launch) (hl0 : l.stackTraces = false) (sz : Nat) (D : va_G) (h cs : Nat → Nat) (p0 : Int32) (o : Nat) (cL : ClassId) : Met l yL_writeLaw (.codeWith yL_writeLaw cL_writeLaw 4 (some .int) [(0, 9, 12, 41)] :: zT) ({ frames := 8, cells := 1, slots := 6, locals := 134 }) (va_Pc [.ref (h 0), .int p0, .ref o] (zY D [((h 0), .inr (11, [.ref (h 1), .ref (h 9), .int 0, .int 0, .ref (h 20), .ref (h 37), .int 0, .ref (h 38), .ref (h 42), .ref (h 43), .ref (h 44), .ref (h 45), .ref (h 46), .ref (h 47), .ref (h 48)])), ((h 1), .inr (8, [.ref (h 2), .int 0, .ref (h 3), .ref (h 4), .int 0, .ref (h 5), .int 0, .ref (h 6), .int 0, .ref (h 7), .int 0])), ((h 4), .inl ((cs 4), 100, .inr (.inr (.inr (.inr (fun _ => none)))))), (o, .inl (cL, 1, .inr (.inl (fun _ => 0))))] [((cs 4), .object RX4), (cL, .long)] sz)) (va_Qi (fun (r u : Int32) => zS_writeLaw p0 r u) (fun u t => ∃ g2 : Nat → Int64, g2 0 = u.toInt64 ∧ zE D [(o, .inl (cL, 1, .inr (.inl g2)))] [] (va_A [((h 0), .inr (11, [.ref (h 1), .ref (h 9), .int 0, .int 0, .ref (h 20), .ref (h 37), .int 0, .ref (h 38), .ref (h 42), .ref (h 43), .ref (h 44), .ref (h 45), .ref (h 46), .ref (h 47), .ref (h 48)])), ((h 1), .inr (8, [.ref (h 2), .int 0, .ref (h 3), .ref (h 4), .int 0, .ref (h 5), .int 0, .ref (h 6), .int 0, .ref (h 7), .int 0])), ((h 4), .inl ((cs 4), 100, .inr (.inr (.inr (.inr (fun _ => none)))))), (o, .inl (cL, 1, .inr (.inl (fun _ => 0))))] sz) t) (va_A [((h 0), .inr (11, [.ref (h 1), .ref (h 9), .int 0, .int 0, .ref (h 20), .ref (h 37), .int 0, .ref (h 38), .ref (h 42), .ref (h 43), .ref (h 44), .ref (h 45), .ref (h 46), .ref (h 47), .ref (h 48)])), ((h 1), .inr (8, [.ref (h 2), .int 0, .ref (h 3), .ref (h 4), .int 0, .ref (h 5), .int 0, .ref (h 6), .int 0, .ref (h 7), .int 0])), ((h 4), .inl ((cs 4), 100, .inr (.inr (.inr (.inr (fun _ => none)))))), (o, .inl (cL, 1, .inr (.inl (fun _ => 0))))] sz)) 1 6 (va_A [((h 0), .inr (11, [.ref (h 1), .ref (h 9), .int 0, .int 0, .ref (h 20), .ref (h 37), .int 0, .ref (h 38), .ref (h 42), .ref (h 43), .ref (h 44), .ref (h 45), .ref (h 46), .ref (h 47), .ref (h 48)])), ((h 1), .inr (8, [.ref (h 2), .int 0, .ref (h 3), .ref (h 4), .int 0, .ref (h 5), .int 0, .ref (h 6), .int 0, .ref (h 7), .int 0])), ((h 4), .inl ((cs 4), 100, .inr (.inr (.inr (.inr (fun _ => none)))))), (o, .inl (cL, 1, .inr (.inl (fun _ => 0))))] sz) := by
  refine zOfWH (cc := cL_writeLaw) (maxL := 4) (ret := (some .int)) (by decide) rfl ?_
  intro p e s m args below meth c s₁ B hml hv
  obtain ⟨rfl, hNc, hEx, hsz, hP, hK, hD0⟩ := hv
  have hx := B.exec
  have hb := B.bytes
  have hr := B.returns
  have hts := atoms_spec (ws := (.codeWith yL_writeLaw cL_writeLaw 4 (some .int) [(0, 9, 12, 41)] :: zT)) B.pre
  have ht : ∀ w ∈ zT, w.before _ s = true := fun w h => hts w (List.mem_cons_of_mem _ h)
  have hown : s.vm.findClass RL = some m.cls := findClass_of_methodNamed B.named
  have hlocks := B.notSynchronized
  have hTab := vx_table (x := yL_writeLaw) B (hts _ List.mem_cons_self)
  subst hsz
  have hD := hD0.self (sz := s.heap.size)
  generalize hAe : va_A [((h 0), .inr (11, [.ref (h 1), .ref (h 9), .int 0, .int 0, .ref (h 20), .ref (h 37), .int 0, .ref (h 38), .ref (h 42), .ref (h 43), .ref (h 44), .ref (h 45), .ref (h 46), .ref (h 47), .ref (h 48)])), ((h 1), .inr (8, [.ref (h 2), .int 0, .ref (h 3), .ref (h 4), .int 0, .ref (h 5), .int 0, .ref (h 6), .int 0, .ref (h 7), .int 0])), ((h 4), .inl ((cs 4), 100, .inr (.inr (.inr (.inr (fun _ => none)))))), (o, .inl (cL, 1, .inr (.inl (fun _ => 0))))] s.heap.size = A at hD hEx ⊢
  have hA : ∀ q : Nat, s.heap.size ≤ q → A q := fun q h => by rw [← hAe]; exact Or.inr h
  have hS : va_S A s.heap s.heap [] := va_S.rf
  have hP : va_P D vwCl [((h 0), .inr (11, [.ref (h 1), .ref (h 9), .int 0, .int 0, .ref (h 20), .ref (h 37), .int 0, .ref (h 38), .ref (h 42), .ref (h 43), .ref (h 44), .ref (h 45), .ref (h 46), .ref (h 47), .ref (h 48)])), ((h 1), .inr (8, [.ref (h 2), .int 0, .ref (h 3), .ref (h 4), .int 0, .ref (h 5), .int 0, .ref (h 6), .int 0, .ref (h 7), .int 0])), ((h 4), .inl ((cs 4), 100, .inr (.inr (.inr (.inr (fun _ => none)))))), (o, .inl (cL, 1, .inr (.inl (fun _ => 0))))] s.heap := hP
  have hl := lv_entry ([.ref (h 0), .int p0, .ref o]) (n := 4) (Nat.le_of_ble_eq_true rfl)
  rw [lg_entry_eq]
  generalize (lg_sl ([.ref (h 0), .int p0, .ref o]) ++ List.replicate (4 - (lg_sl ([.ref (h 0), .int p0, .ref o])).length) Slot.unset).toArray = ls at hl ⊢
  have hl : lv_has ls 4 [(0, .ref (h 0)), (1, .int p0), (2, .ref o)] := hl
  skip
  refine lv_aload_n hx hb dL_writeLaw_0 rfl (lv_at hl 2 rfl) ?_
  refine lv_iconst (v := 0) hx hb dL_writeLaw_1 (by decide) ?_
  refine lv_aload_n hx hb dL_writeLaw_2 rfl (lv_at hl 0 rfl) ?_
  refine lv_iload_n hx hb dL_writeLaw_3 rfl (lv_at hl 1 rfl) ?_
  have hPc := hP.sub (ws' := [((h 0), .inr (11, [.ref (h 1), .ref (h 9), .int 0, .int 0, .ref (h 20), .ref (h 37), .int 0, .ref (h 38), .ref (h 42), .ref (h 43), .ref (h 44), .ref (h 45), .ref (h 46), .ref (h 47), .ref (h 48)])), ((h 1), .inr (8, [.ref (h 2), .int 0, .ref (h 3), .ref (h 4), .int 0, .ref (h 5), .int 0, .ref (h 6), .int 0, .ref (h 7), .int 0])), ((h 4), .inl ((cs 4), 100, .inr (.inr (.inr (.inr (fun _ => none))))))]) [0, 1, 2] rfl
  have hDc := hD.sub (ws' := [((h 0), .inr (11, [.ref (h 1), .ref (h 9), .int 0, .int 0, .ref (h 20), .ref (h 37), .int 0, .ref (h 38), .ref (h 42), .ref (h 43), .ref (h 44), .ref (h 45), .ref (h 46), .ref (h 47), .ref (h 48)])), ((h 1), .inr (8, [.ref (h 2), .int 0, .ref (h 3), .ref (h 4), .int 0, .ref (h 5), .int 0, .ref (h 6), .int 0, .ref (h 7), .int 0])), ((h 4), .inl ((cs 4), 100, .inr (.inr (.inr (.inr (fun _ => none))))))]) [0, 1, 2] (by decide) rfl
  have hKc := hK.sub (tys' := [((cs 4), .object RX4)]) [0] rfl
  have hFc := va_free (wc := [((h 0), .inr (11, [.ref (h 1), .ref (h 9), .int 0, .int 0, .ref (h 20), .ref (h 37), .int 0, .ref (h 38), .ref (h 42), .ref (h 43), .ref (h 44), .ref (h 45), .ref (h 46), .ref (h 47), .ref (h 48)])), ((h 1), .inr (8, [.ref (h 2), .int 0, .ref (h 3), .ref (h 4), .int 0, .ref (h 5), .int 0, .ref (h 6), .int 0, .ref (h 7), .int 0])), ((h 4), .inl ((cs 4), 100, .inr (.inr (.inr (.inr (fun _ => none))))))]) hD hS hA [0, 1, 2] rfl
  refine vx_calli (vx_runV (As := [.int p0]) (rest := [.int 0, .ref o]) ⟨hx, hb, hml, hown, ht⟩ (k_X11_writeLaw l hl0 _ D h cs p0) (cwV 1 ht (zG_V zw_700 zw_701 zw_702 zw_404 zw_703) rfl rfl rfl (by decide +kernel) ⟨Nat.le_of_ble_eq_true rfl, Nat.le_of_ble_eq_true rfl⟩) (zW_V (va_recv hK hP (ci := 11) (q0 := 0) rfl rfl) hEx hS hFc hPc hKc hDc) rfl rfl hl.1 rfl (lv_room (Nat.le_of_ble_eq_true rfl)) dL_writeLaw_4 ⟨Nat.le_of_ble_eq_true rfl, Nat.le_of_ble_eq_true rfl⟩) hS (fun q _ h => hFc q h) hFc (fun q _ h => hFc q h) (fun E ce q9 uu t H1 locs1 ht0 hvm hpx hB hz1 hk1 hS hcell hv hcl => ?_) (fun r_1 u_1 t H1 locs ht0 hvm hw_1 hB hz1 hk1 hS => ?_)
  · skip
    obtain ⟨rfl, hb9⟩ := hB
    obtain ⟨hP, hD⟩ := va_join (wr := [(o, .inl (cL, 1, .inr (.inl (fun _ => 0))))]) (w1 := []) hP hD [0, 1, 2] [3] rfl rfl (by decide) (by decide) hk1 hFc zP_nil zD_nil
    refine vx_catch (name := "java/util/NoSuchElementException") hown [] ⟨0, 9, 12, 41⟩ [] hTab ((fun _ h => nomatch h)) (by decide) (by decide) (ht _ zw_619) (va_Nw.use rfl (hEx.1.2.2.2.1 "java/util/NoSuchElementException" (by decide))) hcell hv hcl ?_
    generalize H1 = H at hP hS ⊢
    have hP : va_P D vwCl [(o, .inl (cL, 1, .inr (.inl (fun _ => 0))))] H := hP
    have hD : va_D A [(o, .inl (cL, 1, .inr (.inl (fun _ => 0))))] := hD
    refine W.widen (k := 1) (n := 6) (Nat.le_of_ble_eq_true rfl) (Nat.le_of_ble_eq_true rfl) ?_
    refine lv_astore_n (lv' := [(3, .ref q9), (0, .ref (h 0)), (1, .int p0), (2, .ref o)]) hx hb dL_writeLaw_12 rfl hl (by decide) rfl (fun ls hl => ?_)
    refine lv_iconst (v := 1) hx hb dL_writeLaw_13 (by decide) ?_
    have hP9 := hP.sub (ws' := [(o, .inl (cL, 1, .inr (.inl (fun _ => 0))))]) [0] rfl
    have hD9 := hD.sub (ws' := [(o, .inl (cL, 1, .inr (.inl (fun _ => 0))))]) [0] (by decide) rfl
    have hK9 := hK.sub (tys' := []) [] rfl
    refine W.widen (k := 1) (n := 6) (Nat.le_of_ble_eq_true rfl) (Nat.le_of_ble_eq_true rfl) ?_
    exact W.iret (v := 1) hx hb hr (fun t ht0 hW => ⟨⟨1, 0, rfl, hb9, (fun _ => 0), rfl, zE_of hP9 hK9 hD9 ht0 hW⟩, hS.F ht0⟩) hS.2.2 dL_writeLaw_14
  obtain ⟨hP1, hK1, hD1⟩ := hB
  rw [ht0] at hP1
  have hK1 := va_K.moved hvm.symm hK1
  obtain ⟨hP, hD⟩ := va_join (wr := [(o, .inl (cL, 1, .inr (.inl (fun _ => 0))))]) (w1 := []) hP hD [0, 1, 2] [3] rfl rfl (by decide) (by decide) hk1 hFc hP1 hD1
  generalize H1 = H at hP hS ⊢
  have hP : va_P D vwCl [(o, .inl (cL, 1, .inr (.inl (fun _ => 0))))] H := hP
  have hD : va_D A [(o, .inl (cL, 1, .inr (.inl (fun _ => 0))))] := hD
  refine W.widen (k := 1) (n := 6) (Nat.le_of_ble_eq_true rfl) (Nat.le_of_ble_eq_true rfl) ?_
  exfalso
  unfold zS_writeLaw at hw_1
  obtain ⟨h9, -⟩ := hw_1
  exact absurd h9 (by decide)
set_option maxHeartbeats 4000000 in
set_option maxRecDepth 100000 in
theorem k_L_outputAt (l : Launch) (hl0 : l.stackTraces = false) (sz : Nat) (D : va_G) (h cs : Nat → Nat) (p0 : Int32) (o : Nat) (cL : ClassId) : Met l yL_outputAt (.codeWith yL_outputAt cL_outputAt 4 (some .int) [(0, 9, 12, 41)] :: zT) ({ frames := 7, cells := 1, slots := 6, locals := 111 }) (va_Pc [.ref (h 0), .int p0, .ref o] (zY D [((h 0), .inr (11, [.ref (h 1), .ref (h 9), .int 0, .int 0, .ref (h 20), .ref (h 37), .int 0, .ref (h 38), .ref (h 42), .ref (h 43), .ref (h 44), .ref (h 45), .ref (h 46), .ref (h 47), .ref (h 48)])), ((h 42), .inr (10, [.ref (h 81), .int 0, .ref (h 82), .int 0, .ref (h 83), .int 0, .int 0])), (o, .inl (cL, 1, .inr (.inl (fun _ => 0))))] [(cL, .long)] sz)) (va_Qi (fun (r u : Int32) => zS_outputAt p0 r u) (fun u t => ∃ g2 : Nat → Int64, g2 0 = u.toInt64 ∧ zE D [(o, .inl (cL, 1, .inr (.inl g2)))] [] (va_A [((h 0), .inr (11, [.ref (h 1), .ref (h 9), .int 0, .int 0, .ref (h 20), .ref (h 37), .int 0, .ref (h 38), .ref (h 42), .ref (h 43), .ref (h 44), .ref (h 45), .ref (h 46), .ref (h 47), .ref (h 48)])), ((h 42), .inr (10, [.ref (h 81), .int 0, .ref (h 82), .int 0, .ref (h 83), .int 0, .int 0])), (o, .inl (cL, 1, .inr (.inl (fun _ => 0))))] sz) t) (va_A [((h 0), .inr (11, [.ref (h 1), .ref (h 9), .int 0, .int 0, .ref (h 20), .ref (h 37), .int 0, .ref (h 38), .ref (h 42), .ref (h 43), .ref (h 44), .ref (h 45), .ref (h 46), .ref (h 47), .ref (h 48)])), ((h 42), .inr (10, [.ref (h 81), .int 0, .ref (h 82), .int 0, .ref (h 83), .int 0, .int 0])), (o, .inl (cL, 1, .inr (.inl (fun _ => 0))))] sz)) 1 6 (va_A [((h 0), .inr (11, [.ref (h 1), .ref (h 9), .int 0, .int 0, .ref (h 20), .ref (h 37), .int 0, .ref (h 38), .ref (h 42), .ref (h 43), .ref (h 44), .ref (h 45), .ref (h 46), .ref (h 47), .ref (h 48)])), ((h 42), .inr (10, [.ref (h 81), .int 0, .ref (h 82), .int 0, .ref (h 83), .int 0, .int 0])), (o, .inl (cL, 1, .inr (.inl (fun _ => 0))))] sz) := by
  refine zOfWH (cc := cL_outputAt) (maxL := 4) (ret := (some .int)) (by decide) rfl ?_
  intro p e s m args below meth c s₁ B hml hv
  obtain ⟨rfl, hNc, hEx, hsz, hP, hK, hD0⟩ := hv
  have hx := B.exec
  have hb := B.bytes
  have hr := B.returns
  have hts := atoms_spec (ws := (.codeWith yL_outputAt cL_outputAt 4 (some .int) [(0, 9, 12, 41)] :: zT)) B.pre
  have ht : ∀ w ∈ zT, w.before _ s = true := fun w h => hts w (List.mem_cons_of_mem _ h)
  have hown : s.vm.findClass RL = some m.cls := findClass_of_methodNamed B.named
  have hlocks := B.notSynchronized
  have hTab := vx_table (x := yL_outputAt) B (hts _ List.mem_cons_self)
  subst hsz
  have hD := hD0.self (sz := s.heap.size)
  generalize hAe : va_A [((h 0), .inr (11, [.ref (h 1), .ref (h 9), .int 0, .int 0, .ref (h 20), .ref (h 37), .int 0, .ref (h 38), .ref (h 42), .ref (h 43), .ref (h 44), .ref (h 45), .ref (h 46), .ref (h 47), .ref (h 48)])), ((h 42), .inr (10, [.ref (h 81), .int 0, .ref (h 82), .int 0, .ref (h 83), .int 0, .int 0])), (o, .inl (cL, 1, .inr (.inl (fun _ => 0))))] s.heap.size = A at hD hEx ⊢
  have hA : ∀ q : Nat, s.heap.size ≤ q → A q := fun q h => by rw [← hAe]; exact Or.inr h
  have hS : va_S A s.heap s.heap [] := va_S.rf
  have hP : va_P D vwCl [((h 0), .inr (11, [.ref (h 1), .ref (h 9), .int 0, .int 0, .ref (h 20), .ref (h 37), .int 0, .ref (h 38), .ref (h 42), .ref (h 43), .ref (h 44), .ref (h 45), .ref (h 46), .ref (h 47), .ref (h 48)])), ((h 42), .inr (10, [.ref (h 81), .int 0, .ref (h 82), .int 0, .ref (h 83), .int 0, .int 0])), (o, .inl (cL, 1, .inr (.inl (fun _ => 0))))] s.heap := hP
  have hl := lv_entry ([.ref (h 0), .int p0, .ref o]) (n := 4) (Nat.le_of_ble_eq_true rfl)
  rw [lg_entry_eq]
  generalize (lg_sl ([.ref (h 0), .int p0, .ref o]) ++ List.replicate (4 - (lg_sl ([.ref (h 0), .int p0, .ref o])).length) Slot.unset).toArray = ls at hl ⊢
  have hl : lv_has ls 4 [(0, .ref (h 0)), (1, .int p0), (2, .ref o)] := hl
  skip
  refine lv_aload_n hx hb dL_outputAt_0 rfl (lv_at hl 2 rfl) ?_
  refine lv_iconst (v := 0) hx hb dL_outputAt_1 (by decide) ?_
  refine lv_aload_n hx hb dL_outputAt_2 rfl (lv_at hl 0 rfl) ?_
  refine lv_iload_n hx hb dL_outputAt_3 rfl (lv_at hl 1 rfl) ?_
  have hPc := hP.sub (ws' := [((h 0), .inr (11, [.ref (h 1), .ref (h 9), .int 0, .int 0, .ref (h 20), .ref (h 37), .int 0, .ref (h 38), .ref (h 42), .ref (h 43), .ref (h 44), .ref (h 45), .ref (h 46), .ref (h 47), .ref (h 48)])), ((h 42), .inr (10, [.ref (h 81), .int 0, .ref (h 82), .int 0, .ref (h 83), .int 0, .int 0]))]) [0, 1] rfl
  have hDc := hD.sub (ws' := [((h 0), .inr (11, [.ref (h 1), .ref (h 9), .int 0, .int 0, .ref (h 20), .ref (h 37), .int 0, .ref (h 38), .ref (h 42), .ref (h 43), .ref (h 44), .ref (h 45), .ref (h 46), .ref (h 47), .ref (h 48)])), ((h 42), .inr (10, [.ref (h 81), .int 0, .ref (h 82), .int 0, .ref (h 83), .int 0, .int 0]))]) [0, 1] (by decide) rfl
  have hKc := hK.sub (tys' := []) [] rfl
  have hFc := va_free (wc := [((h 0), .inr (11, [.ref (h 1), .ref (h 9), .int 0, .int 0, .ref (h 20), .ref (h 37), .int 0, .ref (h 38), .ref (h 42), .ref (h 43), .ref (h 44), .ref (h 45), .ref (h 46), .ref (h 47), .ref (h 48)])), ((h 42), .inr (10, [.ref (h 81), .int 0, .ref (h 82), .int 0, .ref (h 83), .int 0, .int 0]))]) hD hS hA [0, 1] rfl
  refine vx_calli (vx_runV (As := [.int p0]) (rest := [.int 0, .ref o]) ⟨hx, hb, hml, hown, ht⟩ (k_X11_outputAt l hl0 _ D h cs p0) (cwV 1 ht (zG_V zw_704 zw_705 zw_706 zw_404 zw_707) rfl rfl rfl (by decide +kernel) ⟨Nat.le_of_ble_eq_true rfl, Nat.le_of_ble_eq_true rfl⟩) (zW_V (va_recv hK hP (ci := 11) (q0 := 0) rfl rfl) hEx hS hFc hPc hKc hDc) rfl rfl hl.1 rfl (lv_room (Nat.le_of_ble_eq_true rfl)) dL_outputAt_4 ⟨Nat.le_of_ble_eq_true rfl, Nat.le_of_ble_eq_true rfl⟩) hS (fun q _ h => hFc q h) hFc (fun q _ h => hFc q h) (fun E ce q9 uu t H1 locs1 ht0 hvm hpx hB hz1 hk1 hS hcell hv hcl => ?_) (fun r_1 u_1 t H1 locs ht0 hvm hw_1 hB hz1 hk1 hS => ?_)
  · skip
    obtain ⟨rfl, hb9⟩ := hB
    obtain ⟨hP, hD⟩ := va_join (wr := [(o, .inl (cL, 1, .inr (.inl (fun _ => 0))))]) (w1 := []) hP hD [0, 1] [2] rfl rfl (by decide) (by decide) hk1 hFc zP_nil zD_nil
    refine vx_catch (name := "java/util/NoSuchElementException") hown [] ⟨0, 9, 12, 41⟩ [] hTab ((fun _ h => nomatch h)) (by decide) (by decide) (ht _ zw_619) (va_Nw.use rfl (hEx.1.2.2.2.1 "java/util/NoSuchElementException" (by decide))) hcell hv hcl ?_
    generalize H1 = H at hP hS ⊢
    have hP : va_P D vwCl [(o, .inl (cL, 1, .inr (.inl (fun _ => 0))))] H := hP
    have hD : va_D A [(o, .inl (cL, 1, .inr (.inl (fun _ => 0))))] := hD
    refine W.widen (k := 1) (n := 6) (Nat.le_of_ble_eq_true rfl) (Nat.le_of_ble_eq_true rfl) ?_
    refine lv_astore_n (lv' := [(3, .ref q9), (0, .ref (h 0)), (1, .int p0), (2, .ref o)]) hx hb dL_outputAt_12 rfl hl (by decide) rfl (fun ls hl => ?_)
    refine lv_iconst (v := 1) hx hb dL_outputAt_13 (by decide) ?_
    have hP9 := hP.sub (ws' := [(o, .inl (cL, 1, .inr (.inl (fun _ => 0))))]) [0] rfl
    have hD9 := hD.sub (ws' := [(o, .inl (cL, 1, .inr (.inl (fun _ => 0))))]) [0] (by decide) rfl
    have hK9 := hK.sub (tys' := []) [] rfl
    refine W.widen (k := 1) (n := 6) (Nat.le_of_ble_eq_true rfl) (Nat.le_of_ble_eq_true rfl) ?_
    exact W.iret (v := 1) hx hb hr (fun t ht0 hW => ⟨⟨1, 0, rfl, hb9, (fun _ => 0), rfl, zE_of hP9 hK9 hD9 ht0 hW⟩, hS.F ht0⟩) hS.2.2 dL_outputAt_14
  obtain ⟨hP1, hK1, hD1⟩ := hB
  rw [ht0] at hP1
  have hK1 := va_K.moved hvm.symm hK1
  obtain ⟨hP, hD⟩ := va_join (wr := [(o, .inl (cL, 1, .inr (.inl (fun _ => 0))))]) (w1 := []) hP hD [0, 1] [2] rfl rfl (by decide) (by decide) hk1 hFc hP1 hD1
  generalize H1 = H at hP hS ⊢
  have hP : va_P D vwCl [(o, .inl (cL, 1, .inr (.inl (fun _ => 0))))] H := hP
  have hD : va_D A [(o, .inl (cL, 1, .inr (.inl (fun _ => 0))))] := hD
  refine W.widen (k := 1) (n := 6) (Nat.le_of_ble_eq_true rfl) (Nat.le_of_ble_eq_true rfl) ?_
  exfalso
  unfold zS_outputAt at hw_1
  obtain ⟨h9, -⟩ := hw_1
  exact absurd h9 (by decide)
set_option maxHeartbeats 4000000 in
set_option maxRecDepth 100000 in
theorem k_L_termAt (l : Launch) (hl0 : l.stackTraces = false) (sz : Nat) (D : va_G) (h cs : Nat → Nat) (p0 p1 : Int32) (o : Nat) (cL : ClassId) : Met l yL_termAt (.codeWith yL_termAt cL_termAt 5 (some .int) [(0, 10, 13, 21), (0, 10, 17, 13)] :: zT) ({ frames := 8, cells := 2, slots := 12, locals := 134 }) (va_Pc [.ref (h 0), .int p0, .int p1, .ref o] (zY D [((h 0), .inr (11, [.ref (h 1), .ref (h 9), .int 0, .int 0, .ref (h 20), .ref (h 37), .int 0, .ref (h 38), .ref (h 42), .ref (h 43), .ref (h 44), .ref (h 45), .ref (h 46), .ref (h 47), .ref (h 48)])), ((h 1), .inr (8, [.ref (h 2), .int 0, .ref (h 3), .ref (h 4), .int 0, .ref (h 5), .int 0, .ref (h 6), .int 0, .ref (h 7), .int 0])), ((h 3), .inl ((cs 9), 10, .inr (.inr (.inr (.inr (fun _ => none)))))), (o, .inl (cL, 1, .inr (.inl (fun _ => 0))))] [((cs 9), .object RX9), (cL, .long)] sz)) (va_Qi (fun (r u : Int32) => zS_termAt p0 p1 r u) (fun u t => ∃ g2 : Nat → Int64, g2 0 = u.toInt64 ∧ zE D [(o, .inl (cL, 1, .inr (.inl g2)))] [] (va_A [((h 0), .inr (11, [.ref (h 1), .ref (h 9), .int 0, .int 0, .ref (h 20), .ref (h 37), .int 0, .ref (h 38), .ref (h 42), .ref (h 43), .ref (h 44), .ref (h 45), .ref (h 46), .ref (h 47), .ref (h 48)])), ((h 1), .inr (8, [.ref (h 2), .int 0, .ref (h 3), .ref (h 4), .int 0, .ref (h 5), .int 0, .ref (h 6), .int 0, .ref (h 7), .int 0])), ((h 3), .inl ((cs 9), 10, .inr (.inr (.inr (.inr (fun _ => none)))))), (o, .inl (cL, 1, .inr (.inl (fun _ => 0))))] sz) t) (va_A [((h 0), .inr (11, [.ref (h 1), .ref (h 9), .int 0, .int 0, .ref (h 20), .ref (h 37), .int 0, .ref (h 38), .ref (h 42), .ref (h 43), .ref (h 44), .ref (h 45), .ref (h 46), .ref (h 47), .ref (h 48)])), ((h 1), .inr (8, [.ref (h 2), .int 0, .ref (h 3), .ref (h 4), .int 0, .ref (h 5), .int 0, .ref (h 6), .int 0, .ref (h 7), .int 0])), ((h 3), .inl ((cs 9), 10, .inr (.inr (.inr (.inr (fun _ => none)))))), (o, .inl (cL, 1, .inr (.inl (fun _ => 0))))] sz)) 2 12 (va_A [((h 0), .inr (11, [.ref (h 1), .ref (h 9), .int 0, .int 0, .ref (h 20), .ref (h 37), .int 0, .ref (h 38), .ref (h 42), .ref (h 43), .ref (h 44), .ref (h 45), .ref (h 46), .ref (h 47), .ref (h 48)])), ((h 1), .inr (8, [.ref (h 2), .int 0, .ref (h 3), .ref (h 4), .int 0, .ref (h 5), .int 0, .ref (h 6), .int 0, .ref (h 7), .int 0])), ((h 3), .inl ((cs 9), 10, .inr (.inr (.inr (.inr (fun _ => none)))))), (o, .inl (cL, 1, .inr (.inl (fun _ => 0))))] sz) := by
  refine zOfWH (cc := cL_termAt) (maxL := 5) (ret := (some .int)) (by decide) rfl ?_
  intro p e s m args below meth c s₁ B hml hv
  obtain ⟨rfl, hNc, hEx, hsz, hP, hK, hD0⟩ := hv
  have hx := B.exec
  have hb := B.bytes
  have hr := B.returns
  have hts := atoms_spec (ws := (.codeWith yL_termAt cL_termAt 5 (some .int) [(0, 10, 13, 21), (0, 10, 17, 13)] :: zT)) B.pre
  have ht : ∀ w ∈ zT, w.before _ s = true := fun w h => hts w (List.mem_cons_of_mem _ h)
  have hown : s.vm.findClass RL = some m.cls := findClass_of_methodNamed B.named
  have hlocks := B.notSynchronized
  have hTab := vx_table (x := yL_termAt) B (hts _ List.mem_cons_self)
  subst hsz
  have hD := hD0.self (sz := s.heap.size)
  generalize hAe : va_A [((h 0), .inr (11, [.ref (h 1), .ref (h 9), .int 0, .int 0, .ref (h 20), .ref (h 37), .int 0, .ref (h 38), .ref (h 42), .ref (h 43), .ref (h 44), .ref (h 45), .ref (h 46), .ref (h 47), .ref (h 48)])), ((h 1), .inr (8, [.ref (h 2), .int 0, .ref (h 3), .ref (h 4), .int 0, .ref (h 5), .int 0, .ref (h 6), .int 0, .ref (h 7), .int 0])), ((h 3), .inl ((cs 9), 10, .inr (.inr (.inr (.inr (fun _ => none)))))), (o, .inl (cL, 1, .inr (.inl (fun _ => 0))))] s.heap.size = A at hD hEx ⊢
  have hA : ∀ q : Nat, s.heap.size ≤ q → A q := fun q h => by rw [← hAe]; exact Or.inr h
  have hS : va_S A s.heap s.heap [] := va_S.rf
  have hP : va_P D vwCl [((h 0), .inr (11, [.ref (h 1), .ref (h 9), .int 0, .int 0, .ref (h 20), .ref (h 37), .int 0, .ref (h 38), .ref (h 42), .ref (h 43), .ref (h 44), .ref (h 45), .ref (h 46), .ref (h 47), .ref (h 48)])), ((h 1), .inr (8, [.ref (h 2), .int 0, .ref (h 3), .ref (h 4), .int 0, .ref (h 5), .int 0, .ref (h 6), .int 0, .ref (h 7), .int 0])), ((h 3), .inl ((cs 9), 10, .inr (.inr (.inr (.inr (fun _ => none)))))), (o, .inl (cL, 1, .inr (.inl (fun _ => 0))))] s.heap := hP
  have hl := lv_entry ([.ref (h 0), .int p0, .int p1, .ref o]) (n := 5) (Nat.le_of_ble_eq_true rfl)
  rw [lg_entry_eq]
  generalize (lg_sl ([.ref (h 0), .int p0, .int p1, .ref o]) ++ List.replicate (5 - (lg_sl ([.ref (h 0), .int p0, .int p1, .ref o])).length) Slot.unset).toArray = ls at hl ⊢
  have hl : lv_has ls 5 [(0, .ref (h 0)), (1, .int p0), (2, .int p1), (3, .ref o)] := hl
  skip
  refine lv_aload_n hx hb dL_termAt_0 rfl (lv_at hl 3 rfl) ?_
  refine lv_iconst (v := 0) hx hb dL_termAt_1 (by decide) ?_
  refine lv_aload_n hx hb dL_termAt_2 rfl (lv_at hl 0 rfl) ?_
  refine lv_iload_n hx hb dL_termAt_3 rfl (lv_at hl 1 rfl) ?_
  refine lv_iload_n hx hb dL_termAt_4 rfl (lv_at hl 2 rfl) ?_
  have hPc := hP.sub (ws' := [((h 0), .inr (11, [.ref (h 1), .ref (h 9), .int 0, .int 0, .ref (h 20), .ref (h 37), .int 0, .ref (h 38), .ref (h 42), .ref (h 43), .ref (h 44), .ref (h 45), .ref (h 46), .ref (h 47), .ref (h 48)])), ((h 1), .inr (8, [.ref (h 2), .int 0, .ref (h 3), .ref (h 4), .int 0, .ref (h 5), .int 0, .ref (h 6), .int 0, .ref (h 7), .int 0])), ((h 3), .inl ((cs 9), 10, .inr (.inr (.inr (.inr (fun _ => none))))))]) [0, 1, 2] rfl
  have hDc := hD.sub (ws' := [((h 0), .inr (11, [.ref (h 1), .ref (h 9), .int 0, .int 0, .ref (h 20), .ref (h 37), .int 0, .ref (h 38), .ref (h 42), .ref (h 43), .ref (h 44), .ref (h 45), .ref (h 46), .ref (h 47), .ref (h 48)])), ((h 1), .inr (8, [.ref (h 2), .int 0, .ref (h 3), .ref (h 4), .int 0, .ref (h 5), .int 0, .ref (h 6), .int 0, .ref (h 7), .int 0])), ((h 3), .inl ((cs 9), 10, .inr (.inr (.inr (.inr (fun _ => none))))))]) [0, 1, 2] (by decide) rfl
  have hKc := hK.sub (tys' := [((cs 9), .object RX9)]) [0] rfl
  have hFc := va_free (wc := [((h 0), .inr (11, [.ref (h 1), .ref (h 9), .int 0, .int 0, .ref (h 20), .ref (h 37), .int 0, .ref (h 38), .ref (h 42), .ref (h 43), .ref (h 44), .ref (h 45), .ref (h 46), .ref (h 47), .ref (h 48)])), ((h 1), .inr (8, [.ref (h 2), .int 0, .ref (h 3), .ref (h 4), .int 0, .ref (h 5), .int 0, .ref (h 6), .int 0, .ref (h 7), .int 0])), ((h 3), .inl ((cs 9), 10, .inr (.inr (.inr (.inr (fun _ => none))))))]) hD hS hA [0, 1, 2] rfl
  refine vx_calli (vx_runV (As := [.int p0, .int p1]) (rest := [.int 0, .ref o]) ⟨hx, hb, hml, hown, ht⟩ (k_X11_termAt l hl0 _ D h cs p0 p1) (cwV 2 ht (zG_V zw_708 zw_709 zw_710 zw_404 zw_711) rfl rfl rfl (by decide +kernel) ⟨Nat.le_of_ble_eq_true rfl, Nat.le_of_ble_eq_true rfl⟩) (zW_V (va_recv hK hP (ci := 11) (q0 := 0) rfl rfl) hEx hS hFc hPc hKc hDc) rfl rfl hl.1 rfl (lv_room (Nat.le_of_ble_eq_true rfl)) dL_termAt_5 ⟨Nat.le_of_ble_eq_true rfl, Nat.le_of_ble_eq_true rfl⟩) hS (fun q _ h => hFc q h) hFc (fun q _ h => hFc q h) (fun E ce q9 uu t H1 locs1 ht0 hvm hpx hB hz1 hk1 hS hcell hv hcl => ?_) (fun r_1 u_1 t H1 locs ht0 hvm hw_1 hB hz1 hk1 hS => ?_)
  · skip
    rcases hB with ⟨rfl, hb9⟩ | ⟨rfl, hb9⟩
    · skip
      obtain ⟨hP, hD⟩ := va_join (wr := [(o, .inl (cL, 1, .inr (.inl (fun _ => 0))))]) (w1 := []) hP hD [0, 1, 2] [3] rfl rfl (by decide) (by decide) hk1 hFc zP_nil zD_nil
      refine vx_catch (name := "java/lang/IndexOutOfBoundsException") hown [] ⟨0, 10, 13, 21⟩ [⟨0, 10, 17, 13⟩] hTab ((fun _ h => nomatch h)) (by decide) (by decide) (ht _ zw_597) (va_Nw.use rfl (hEx.1.2.2.2.1 "java/lang/IndexOutOfBoundsException" (by decide))) hcell hv hcl ?_
      generalize H1 = H at hP hS ⊢
      have hP : va_P D vwCl [(o, .inl (cL, 1, .inr (.inl (fun _ => 0))))] H := hP
      have hD : va_D A [(o, .inl (cL, 1, .inr (.inl (fun _ => 0))))] := hD
      refine W.widen (k := 2) (n := 12) (Nat.le_of_ble_eq_true rfl) (Nat.le_of_ble_eq_true rfl) ?_
      refine lv_astore (lv' := [(4, .ref q9), (0, .ref (h 0)), (1, .int p0), (2, .int p1), (3, .ref o)]) hx hb dL_termAt_13 hl (by decide) rfl (fun ls hl => ?_)
      refine lv_iconst (v := 1) hx hb dL_termAt_15 (by decide) ?_
      have hP9 := hP.sub (ws' := [(o, .inl (cL, 1, .inr (.inl (fun _ => 0))))]) [0] rfl
      have hD9 := hD.sub (ws' := [(o, .inl (cL, 1, .inr (.inl (fun _ => 0))))]) [0] (by decide) rfl
      have hK9 := hK.sub (tys' := []) [] rfl
      refine W.widen (k := 2) (n := 12) (Nat.le_of_ble_eq_true rfl) (Nat.le_of_ble_eq_true rfl) ?_
      exact W.iret (v := 1) hx hb hr (fun t ht0 hW => ⟨⟨1, 0, rfl, hb9, (fun _ => 0), rfl, zE_of hP9 hK9 hD9 ht0 hW⟩, hS.F ht0⟩) hS.2.2 dL_termAt_16
    · skip
      obtain ⟨hP, hD⟩ := va_join (wr := [(o, .inl (cL, 1, .inr (.inl (fun _ => 0))))]) (w1 := []) hP hD [0, 1, 2] [3] rfl rfl (by decide) (by decide) hk1 hFc zP_nil zD_nil
      refine vx_catch (name := "java/lang/IllegalArgumentException") hown [⟨0, 10, 13, 21⟩] ⟨0, 10, 17, 13⟩ [] hTab (List.forall_mem_cons.mpr ⟨.inr ⟨by decide, "java/lang/IndexOutOfBoundsException", ht _ zw_597, hNc ("java/lang/IllegalArgumentException", "java/lang/IndexOutOfBoundsException") (by decide)⟩, (fun _ h => nomatch h)⟩) (by decide) (by decide) (ht _ zw_592) (va_Nw.use rfl (hEx.1.2.2.2.1 "java/lang/IllegalArgumentException" (by decide))) hcell hv hcl ?_
      generalize H1 = H at hP hS ⊢
      have hP : va_P D vwCl [(o, .inl (cL, 1, .inr (.inl (fun _ => 0))))] H := hP
      have hD : va_D A [(o, .inl (cL, 1, .inr (.inl (fun _ => 0))))] := hD
      refine W.widen (k := 2) (n := 12) (Nat.le_of_ble_eq_true rfl) (Nat.le_of_ble_eq_true rfl) ?_
      refine lv_astore (lv' := [(4, .ref q9), (0, .ref (h 0)), (1, .int p0), (2, .int p1), (3, .ref o)]) hx hb dL_termAt_17 hl (by decide) rfl (fun ls hl => ?_)
      refine lv_iconst (v := 2) hx hb dL_termAt_19 (by decide) ?_
      have hP9 := hP.sub (ws' := [(o, .inl (cL, 1, .inr (.inl (fun _ => 0))))]) [0] rfl
      have hD9 := hD.sub (ws' := [(o, .inl (cL, 1, .inr (.inl (fun _ => 0))))]) [0] (by decide) rfl
      have hK9 := hK.sub (tys' := []) [] rfl
      refine W.widen (k := 2) (n := 12) (Nat.le_of_ble_eq_true rfl) (Nat.le_of_ble_eq_true rfl) ?_
      exact W.iret (v := 2) hx hb hr (fun t ht0 hW => ⟨⟨2, 0, rfl, hb9, (fun _ => 0), rfl, zE_of hP9 hK9 hD9 ht0 hW⟩, hS.F ht0⟩) hS.2.2 dL_termAt_20
  obtain ⟨hP1, hK1, hD1⟩ := hB
  rw [ht0] at hP1
  have hK1 := va_K.moved hvm.symm hK1
  obtain ⟨hP, hD⟩ := va_join (wr := [(o, .inl (cL, 1, .inr (.inl (fun _ => 0))))]) (w1 := []) hP hD [0, 1, 2] [3] rfl rfl (by decide) (by decide) hk1 hFc hP1 hD1
  generalize H1 = H at hP hS ⊢
  have hP : va_P D vwCl [(o, .inl (cL, 1, .inr (.inl (fun _ => 0))))] H := hP
  have hD : va_D A [(o, .inl (cL, 1, .inr (.inl (fun _ => 0))))] := hD
  refine W.widen (k := 2) (n := 12) (Nat.le_of_ble_eq_true rfl) (Nat.le_of_ble_eq_true rfl) ?_
  refine lv_i2l (v := (r_1).toInt64) hx hb dL_termAt_8 rfl ?_
  refine va_last hx hb hK hP hD hS 0 1 rfl rfl (vp_in_iff.mpr (by decide)) dL_termAt_9 (fun H locs hP hD hS => ?_)
  have hP : va_P D vwCl [(o, .inl (cL, 1, .inr (.inl (vp_updL (fun _ => 0) 0 ((r_1).toInt64)))))] H := hP
  have hD : va_D A [(o, .inl (cL, 1, .inr (.inl (vp_updL (fun _ => 0) 0 ((r_1).toInt64)))))] := hD
  refine lv_goto (tgt := 21) hx hb dL_termAt_10 (by decide) ?_
  refine lv_iconst (v := 0) hx hb dL_termAt_21 (by decide) ?_
  have hP9 := hP.sub (ws' := [(o, .inl (cL, 1, .inr (.inl (vp_updL (fun _ => 0) 0 ((r_1).toInt64)))))]) [0] rfl
  have hD9 := hD.sub (ws' := [(o, .inl (cL, 1, .inr (.inl (vp_updL (fun _ => 0) 0 ((r_1).toInt64)))))]) [0] (by decide) rfl
  have hK9 := hK.sub (tys' := []) [] rfl
  refine W.widen (k := 2) (n := 12) (Nat.le_of_ble_eq_true rfl) (Nat.le_of_ble_eq_true rfl) ?_
  exact W.iret (v := 0) hx hb hr (fun t ht0 hW => ⟨⟨0, r_1, rfl, hw_1, (vp_updL (fun _ => 0) 0 ((r_1).toInt64)), (by simp [vp_updL]), zE_of hP9 hK9 hD9 ht0 hW⟩, hS.F ht0⟩) hS.2.2 dL_termAt_22
set_option maxHeartbeats 4000000 in
set_option maxRecDepth 100000 in
theorem k_L_areSame (l : Launch) (hl0 : l.stackTraces = false) (sz : Nat) (D : va_G) (h cs : Nat → Nat) (p0 p1 : Int32) (o : Nat) (cL : ClassId) : Met l yL_areSame (.codeWith yL_areSame cL_areSame 5 (some .int) [(0, 17, 20, 21)] :: zT) ({ frames := 8, cells := 2, slots := 12, locals := 135 }) (va_Pc [.ref (h 0), .int p0, .int p1, .ref o] (zY D [((h 0), .inr (11, [.ref (h 1), .ref (h 9), .int 0, .int 0, .ref (h 20), .ref (h 37), .int 0, .ref (h 38), .ref (h 42), .ref (h 43), .ref (h 44), .ref (h 45), .ref (h 46), .ref (h 47), .ref (h 48)])), ((h 1), .inr (8, [.ref (h 2), .int 0, .ref (h 3), .ref (h 4), .int 0, .ref (h 5), .int 0, .ref (h 6), .int 0, .ref (h 7), .int 0])), ((h 3), .inl ((cs 9), 10, .inr (.inr (.inr (.inr (fun _ => none)))))), (o, .inl (cL, 1, .inr (.inl (fun _ => 0))))] [((cs 9), .object RX9), (cL, .long)] sz)) (va_Qi (fun (r u : Int32) => zS_areSame p0 p1 r u) (fun u t => ∃ g2 : Nat → Int64, g2 0 = u.toInt64 ∧ zE D [(o, .inl (cL, 1, .inr (.inl g2)))] [] (va_A [((h 0), .inr (11, [.ref (h 1), .ref (h 9), .int 0, .int 0, .ref (h 20), .ref (h 37), .int 0, .ref (h 38), .ref (h 42), .ref (h 43), .ref (h 44), .ref (h 45), .ref (h 46), .ref (h 47), .ref (h 48)])), ((h 1), .inr (8, [.ref (h 2), .int 0, .ref (h 3), .ref (h 4), .int 0, .ref (h 5), .int 0, .ref (h 6), .int 0, .ref (h 7), .int 0])), ((h 3), .inl ((cs 9), 10, .inr (.inr (.inr (.inr (fun _ => none)))))), (o, .inl (cL, 1, .inr (.inl (fun _ => 0))))] sz) t) (va_A [((h 0), .inr (11, [.ref (h 1), .ref (h 9), .int 0, .int 0, .ref (h 20), .ref (h 37), .int 0, .ref (h 38), .ref (h 42), .ref (h 43), .ref (h 44), .ref (h 45), .ref (h 46), .ref (h 47), .ref (h 48)])), ((h 1), .inr (8, [.ref (h 2), .int 0, .ref (h 3), .ref (h 4), .int 0, .ref (h 5), .int 0, .ref (h 6), .int 0, .ref (h 7), .int 0])), ((h 3), .inl ((cs 9), 10, .inr (.inr (.inr (.inr (fun _ => none)))))), (o, .inl (cL, 1, .inr (.inl (fun _ => 0))))] sz)) 2 12 (va_A [((h 0), .inr (11, [.ref (h 1), .ref (h 9), .int 0, .int 0, .ref (h 20), .ref (h 37), .int 0, .ref (h 38), .ref (h 42), .ref (h 43), .ref (h 44), .ref (h 45), .ref (h 46), .ref (h 47), .ref (h 48)])), ((h 1), .inr (8, [.ref (h 2), .int 0, .ref (h 3), .ref (h 4), .int 0, .ref (h 5), .int 0, .ref (h 6), .int 0, .ref (h 7), .int 0])), ((h 3), .inl ((cs 9), 10, .inr (.inr (.inr (.inr (fun _ => none)))))), (o, .inl (cL, 1, .inr (.inl (fun _ => 0))))] sz) := by
  refine zOfWH (cc := cL_areSame) (maxL := 5) (ret := (some .int)) (by decide) rfl ?_
  intro p e s m args below meth c s₁ B hml hv
  obtain ⟨rfl, hNc, hEx, hsz, hP, hK, hD0⟩ := hv
  have hx := B.exec
  have hb := B.bytes
  have hr := B.returns
  have hts := atoms_spec (ws := (.codeWith yL_areSame cL_areSame 5 (some .int) [(0, 17, 20, 21)] :: zT)) B.pre
  have ht : ∀ w ∈ zT, w.before _ s = true := fun w h => hts w (List.mem_cons_of_mem _ h)
  have hown : s.vm.findClass RL = some m.cls := findClass_of_methodNamed B.named
  have hlocks := B.notSynchronized
  have hTab := vx_table (x := yL_areSame) B (hts _ List.mem_cons_self)
  subst hsz
  have hD := hD0.self (sz := s.heap.size)
  generalize hAe : va_A [((h 0), .inr (11, [.ref (h 1), .ref (h 9), .int 0, .int 0, .ref (h 20), .ref (h 37), .int 0, .ref (h 38), .ref (h 42), .ref (h 43), .ref (h 44), .ref (h 45), .ref (h 46), .ref (h 47), .ref (h 48)])), ((h 1), .inr (8, [.ref (h 2), .int 0, .ref (h 3), .ref (h 4), .int 0, .ref (h 5), .int 0, .ref (h 6), .int 0, .ref (h 7), .int 0])), ((h 3), .inl ((cs 9), 10, .inr (.inr (.inr (.inr (fun _ => none)))))), (o, .inl (cL, 1, .inr (.inl (fun _ => 0))))] s.heap.size = A at hD hEx ⊢
  have hA : ∀ q : Nat, s.heap.size ≤ q → A q := fun q h => by rw [← hAe]; exact Or.inr h
  have hS : va_S A s.heap s.heap [] := va_S.rf
  have hP : va_P D vwCl [((h 0), .inr (11, [.ref (h 1), .ref (h 9), .int 0, .int 0, .ref (h 20), .ref (h 37), .int 0, .ref (h 38), .ref (h 42), .ref (h 43), .ref (h 44), .ref (h 45), .ref (h 46), .ref (h 47), .ref (h 48)])), ((h 1), .inr (8, [.ref (h 2), .int 0, .ref (h 3), .ref (h 4), .int 0, .ref (h 5), .int 0, .ref (h 6), .int 0, .ref (h 7), .int 0])), ((h 3), .inl ((cs 9), 10, .inr (.inr (.inr (.inr (fun _ => none)))))), (o, .inl (cL, 1, .inr (.inl (fun _ => 0))))] s.heap := hP
  have hl := lv_entry ([.ref (h 0), .int p0, .int p1, .ref o]) (n := 5) (Nat.le_of_ble_eq_true rfl)
  rw [lg_entry_eq]
  generalize (lg_sl ([.ref (h 0), .int p0, .int p1, .ref o]) ++ List.replicate (5 - (lg_sl ([.ref (h 0), .int p0, .int p1, .ref o])).length) Slot.unset).toArray = ls at hl ⊢
  have hl : lv_has ls 5 [(0, .ref (h 0)), (1, .int p0), (2, .int p1), (3, .ref o)] := hl
  skip
  refine lv_aload_n hx hb dL_areSame_0 rfl (lv_at hl 3 rfl) ?_
  refine lv_iconst (v := 0) hx hb dL_areSame_1 (by decide) ?_
  refine lv_aload_n hx hb dL_areSame_2 rfl (lv_at hl 0 rfl) ?_
  refine lv_iload_n hx hb dL_areSame_3 rfl (lv_at hl 1 rfl) ?_
  refine lv_iload_n hx hb dL_areSame_4 rfl (lv_at hl 2 rfl) ?_
  have hPc := hP.sub (ws' := [((h 0), .inr (11, [.ref (h 1), .ref (h 9), .int 0, .int 0, .ref (h 20), .ref (h 37), .int 0, .ref (h 38), .ref (h 42), .ref (h 43), .ref (h 44), .ref (h 45), .ref (h 46), .ref (h 47), .ref (h 48)])), ((h 1), .inr (8, [.ref (h 2), .int 0, .ref (h 3), .ref (h 4), .int 0, .ref (h 5), .int 0, .ref (h 6), .int 0, .ref (h 7), .int 0])), ((h 3), .inl ((cs 9), 10, .inr (.inr (.inr (.inr (fun _ => none))))))]) [0, 1, 2] rfl
  have hDc := hD.sub (ws' := [((h 0), .inr (11, [.ref (h 1), .ref (h 9), .int 0, .int 0, .ref (h 20), .ref (h 37), .int 0, .ref (h 38), .ref (h 42), .ref (h 43), .ref (h 44), .ref (h 45), .ref (h 46), .ref (h 47), .ref (h 48)])), ((h 1), .inr (8, [.ref (h 2), .int 0, .ref (h 3), .ref (h 4), .int 0, .ref (h 5), .int 0, .ref (h 6), .int 0, .ref (h 7), .int 0])), ((h 3), .inl ((cs 9), 10, .inr (.inr (.inr (.inr (fun _ => none))))))]) [0, 1, 2] (by decide) rfl
  have hKc := hK.sub (tys' := [((cs 9), .object RX9)]) [0] rfl
  have hFc := va_free (wc := [((h 0), .inr (11, [.ref (h 1), .ref (h 9), .int 0, .int 0, .ref (h 20), .ref (h 37), .int 0, .ref (h 38), .ref (h 42), .ref (h 43), .ref (h 44), .ref (h 45), .ref (h 46), .ref (h 47), .ref (h 48)])), ((h 1), .inr (8, [.ref (h 2), .int 0, .ref (h 3), .ref (h 4), .int 0, .ref (h 5), .int 0, .ref (h 6), .int 0, .ref (h 7), .int 0])), ((h 3), .inl ((cs 9), 10, .inr (.inr (.inr (.inr (fun _ => none))))))]) hD hS hA [0, 1, 2] rfl
  refine vx_calli (vx_runV (As := [.int p0, .int p1]) (rest := [.int 0, .ref o]) ⟨hx, hb, hml, hown, ht⟩ (k_X11_areSame l hl0 _ D h cs p0 p1) (cwV 2 ht (zG_V zw_712 zw_713 zw_714 zw_404 zw_715) rfl rfl rfl (by decide +kernel) ⟨Nat.le_of_ble_eq_true rfl, Nat.le_of_ble_eq_true rfl⟩) (zW_V (va_recv hK hP (ci := 11) (q0 := 0) rfl rfl) hEx hS hFc hPc hKc hDc) rfl rfl hl.1 rfl (lv_room (Nat.le_of_ble_eq_true rfl)) dL_areSame_5 ⟨Nat.le_of_ble_eq_true rfl, Nat.le_of_ble_eq_true rfl⟩) hS (fun q _ h => hFc q h) hFc (fun q _ h => hFc q h) (fun E ce q9 uu t H1 locs1 ht0 hvm hpx hB hz1 hk1 hS hcell hv hcl => ?_) (fun r_1 u_1 t H1 locs ht0 hvm hw_1 hB hz1 hk1 hS => ?_)
  · skip
    obtain ⟨rfl, hb9⟩ := hB
    obtain ⟨hP, hD⟩ := va_join (wr := [(o, .inl (cL, 1, .inr (.inl (fun _ => 0))))]) (w1 := []) hP hD [0, 1, 2] [3] rfl rfl (by decide) (by decide) hk1 hFc zP_nil zD_nil
    refine vx_catch (name := "java/lang/IndexOutOfBoundsException") hown [] ⟨0, 17, 20, 21⟩ [] hTab ((fun _ h => nomatch h)) (by decide) (by decide) (ht _ zw_597) (va_Nw.use rfl (hEx.1.2.2.2.1 "java/lang/IndexOutOfBoundsException" (by decide))) hcell hv hcl ?_
    generalize H1 = H at hP hS ⊢
    have hP : va_P D vwCl [(o, .inl (cL, 1, .inr (.inl (fun _ => 0))))] H := hP
    have hD : va_D A [(o, .inl (cL, 1, .inr (.inl (fun _ => 0))))] := hD
    refine W.widen (k := 2) (n := 12) (Nat.le_of_ble_eq_true rfl) (Nat.le_of_ble_eq_true rfl) ?_
    refine lv_astore (lv' := [(4, .ref q9), (0, .ref (h 0)), (1, .int p0), (2, .int p1), (3, .ref o)]) hx hb dL_areSame_20 hl (by decide) rfl (fun ls hl => ?_)
    refine lv_iconst (v := 1) hx hb dL_areSame_22 (by decide) ?_
    have hP9 := hP.sub (ws' := [(o, .inl (cL, 1, .inr (.inl (fun _ => 0))))]) [0] rfl
    have hD9 := hD.sub (ws' := [(o, .inl (cL, 1, .inr (.inl (fun _ => 0))))]) [0] (by decide) rfl
    have hK9 := hK.sub (tys' := []) [] rfl
    refine W.widen (k := 2) (n := 12) (Nat.le_of_ble_eq_true rfl) (Nat.le_of_ble_eq_true rfl) ?_
    exact W.iret (v := 1) hx hb hr (fun t ht0 hW => ⟨⟨1, 0, rfl, hb9, (fun _ => 0), rfl, zE_of hP9 hK9 hD9 ht0 hW⟩, hS.F ht0⟩) hS.2.2 dL_areSame_23
  obtain ⟨hP1, hK1, hD1⟩ := hB
  rw [ht0] at hP1
  have hK1 := va_K.moved hvm.symm hK1
  obtain ⟨hP, hD⟩ := va_join (wr := [(o, .inl (cL, 1, .inr (.inl (fun _ => 0))))]) (w1 := []) hP hD [0, 1, 2] [3] rfl rfl (by decide) (by decide) hk1 hFc hP1 hD1
  generalize H1 = H at hP hS ⊢
  have hP : va_P D vwCl [(o, .inl (cL, 1, .inr (.inl (fun _ => 0))))] H := hP
  have hD : va_D A [(o, .inl (cL, 1, .inr (.inl (fun _ => 0))))] := hD
  refine W.widen (k := 2) (n := 12) (Nat.le_of_ble_eq_true rfl) (Nat.le_of_ble_eq_true rfl) ?_
  refine lv_if_eq (tgt := 15) hx hb dL_areSame_8 (by decide) (fun c_2 => ?_) (fun c_2 => ?_)
  · skip
    simp only [fa_lt, fa_le, fa_eq, Int32.reduceToInt] at c_2
    refine lv_lconst (v := 0) hx hb dL_areSame_15 (by decide) ?_
    refine va_last hx hb hK hP hD hS 0 1 rfl rfl (vp_in_iff.mpr (by decide)) dL_areSame_16 (fun H locs hP hD hS => ?_)
    have hP : va_P D vwCl [(o, .inl (cL, 1, .inr (.inl (vp_updL (fun _ => 0) 0 0))))] H := hP
    have hD : va_D A [(o, .inl (cL, 1, .inr (.inl (vp_updL (fun _ => 0) 0 0))))] := hD
    refine lv_goto (tgt := 24) hx hb dL_areSame_17 (by decide) ?_
    refine lv_iconst (v := 0) hx hb dL_areSame_24 (by decide) ?_
    have hP9 := hP.sub (ws' := [(o, .inl (cL, 1, .inr (.inl (vp_updL (fun _ => 0) 0 0))))]) [0] rfl
    have hD9 := hD.sub (ws' := [(o, .inl (cL, 1, .inr (.inl (vp_updL (fun _ => 0) 0 0))))]) [0] (by decide) rfl
    have hK9 := hK.sub (tys' := []) [] rfl
    refine W.widen (k := 2) (n := 12) (Nat.le_of_ble_eq_true rfl) (Nat.le_of_ble_eq_true rfl) ?_
    exact W.iret (v := 0) hx hb hr (fun t ht0 hW => ⟨⟨0, r_1, rfl, hw_1, (vp_updL (fun _ => 0) 0 0), (by rw [show r_1 = 0 from Int32.toInt_inj.mp (show r_1.toInt = (0 : Int32).toInt by rw [c_2]; rfl)]; rfl), zE_of hP9 hK9 hD9 ht0 hW⟩, hS.F ht0⟩) hS.2.2 dL_areSame_25
  · skip
    simp only [fa_lt, fa_le, fa_eq, Int32.reduceToInt] at c_2
    exfalso; apply c_2
    unfold zS_areSame at hw_1
    rcases hw_1 with ⟨h9, -⟩ | ⟨-, -, h9⟩
    · exact absurd h9 (by decide)
    · rw [h9]; rfl
set_option maxHeartbeats 4000000 in
set_option maxRecDepth 100000 in
theorem k_L_direction (l : Launch) (hl0 : l.stackTraces = false) (sz : Nat) (D : va_G) (h cs : Nat → Nat) (p0 p1 : Int32) (o : Nat) (cL : ClassId) : Met l yL_direction (.codeWith yL_direction cL_direction 5 (some .int) [(0, 10, 13, 21), (0, 10, 17, 15)] :: zT) ({ frames := 8, cells := 2, slots := 12, locals := 135 }) (va_Pc [.ref (h 0), .int p0, .int p1, .ref o] (zY D [((h 0), .inr (11, [.ref (h 1), .ref (h 9), .int 0, .int 0, .ref (h 20), .ref (h 37), .int 0, .ref (h 38), .ref (h 42), .ref (h 43), .ref (h 44), .ref (h 45), .ref (h 46), .ref (h 47), .ref (h 48)])), ((h 1), .inr (8, [.ref (h 2), .int 0, .ref (h 3), .ref (h 4), .int 0, .ref (h 5), .int 0, .ref (h 6), .int 0, .ref (h 7), .int 0])), ((h 3), .inl ((cs 9), 10, .inr (.inr (.inr (.inr (fun _ => none)))))), (o, .inl (cL, 1, .inr (.inl (fun _ => 0))))] [((cs 9), .object RX9), (cL, .long)] sz)) (va_Qi (fun (r u : Int32) => zS_direction p0 p1 r u) (fun u t => ∃ g2 : Nat → Int64, g2 0 = u.toInt64 ∧ zE D [(o, .inl (cL, 1, .inr (.inl g2)))] [] (va_A [((h 0), .inr (11, [.ref (h 1), .ref (h 9), .int 0, .int 0, .ref (h 20), .ref (h 37), .int 0, .ref (h 38), .ref (h 42), .ref (h 43), .ref (h 44), .ref (h 45), .ref (h 46), .ref (h 47), .ref (h 48)])), ((h 1), .inr (8, [.ref (h 2), .int 0, .ref (h 3), .ref (h 4), .int 0, .ref (h 5), .int 0, .ref (h 6), .int 0, .ref (h 7), .int 0])), ((h 3), .inl ((cs 9), 10, .inr (.inr (.inr (.inr (fun _ => none)))))), (o, .inl (cL, 1, .inr (.inl (fun _ => 0))))] sz) t) (va_A [((h 0), .inr (11, [.ref (h 1), .ref (h 9), .int 0, .int 0, .ref (h 20), .ref (h 37), .int 0, .ref (h 38), .ref (h 42), .ref (h 43), .ref (h 44), .ref (h 45), .ref (h 46), .ref (h 47), .ref (h 48)])), ((h 1), .inr (8, [.ref (h 2), .int 0, .ref (h 3), .ref (h 4), .int 0, .ref (h 5), .int 0, .ref (h 6), .int 0, .ref (h 7), .int 0])), ((h 3), .inl ((cs 9), 10, .inr (.inr (.inr (.inr (fun _ => none)))))), (o, .inl (cL, 1, .inr (.inl (fun _ => 0))))] sz)) 2 12 (va_A [((h 0), .inr (11, [.ref (h 1), .ref (h 9), .int 0, .int 0, .ref (h 20), .ref (h 37), .int 0, .ref (h 38), .ref (h 42), .ref (h 43), .ref (h 44), .ref (h 45), .ref (h 46), .ref (h 47), .ref (h 48)])), ((h 1), .inr (8, [.ref (h 2), .int 0, .ref (h 3), .ref (h 4), .int 0, .ref (h 5), .int 0, .ref (h 6), .int 0, .ref (h 7), .int 0])), ((h 3), .inl ((cs 9), 10, .inr (.inr (.inr (.inr (fun _ => none)))))), (o, .inl (cL, 1, .inr (.inl (fun _ => 0))))] sz) := by
  refine zOfWH (cc := cL_direction) (maxL := 5) (ret := (some .int)) (by decide) rfl ?_
  intro p e s m args below meth c s₁ B hml hv
  obtain ⟨rfl, hNc, hEx, hsz, hP, hK, hD0⟩ := hv
  have hx := B.exec
  have hb := B.bytes
  have hr := B.returns
  have hts := atoms_spec (ws := (.codeWith yL_direction cL_direction 5 (some .int) [(0, 10, 13, 21), (0, 10, 17, 15)] :: zT)) B.pre
  have ht : ∀ w ∈ zT, w.before _ s = true := fun w h => hts w (List.mem_cons_of_mem _ h)
  have hown : s.vm.findClass RL = some m.cls := findClass_of_methodNamed B.named
  have hlocks := B.notSynchronized
  have hTab := vx_table (x := yL_direction) B (hts _ List.mem_cons_self)
  subst hsz
  have hD := hD0.self (sz := s.heap.size)
  generalize hAe : va_A [((h 0), .inr (11, [.ref (h 1), .ref (h 9), .int 0, .int 0, .ref (h 20), .ref (h 37), .int 0, .ref (h 38), .ref (h 42), .ref (h 43), .ref (h 44), .ref (h 45), .ref (h 46), .ref (h 47), .ref (h 48)])), ((h 1), .inr (8, [.ref (h 2), .int 0, .ref (h 3), .ref (h 4), .int 0, .ref (h 5), .int 0, .ref (h 6), .int 0, .ref (h 7), .int 0])), ((h 3), .inl ((cs 9), 10, .inr (.inr (.inr (.inr (fun _ => none)))))), (o, .inl (cL, 1, .inr (.inl (fun _ => 0))))] s.heap.size = A at hD hEx ⊢
  have hA : ∀ q : Nat, s.heap.size ≤ q → A q := fun q h => by rw [← hAe]; exact Or.inr h
  have hS : va_S A s.heap s.heap [] := va_S.rf
  have hP : va_P D vwCl [((h 0), .inr (11, [.ref (h 1), .ref (h 9), .int 0, .int 0, .ref (h 20), .ref (h 37), .int 0, .ref (h 38), .ref (h 42), .ref (h 43), .ref (h 44), .ref (h 45), .ref (h 46), .ref (h 47), .ref (h 48)])), ((h 1), .inr (8, [.ref (h 2), .int 0, .ref (h 3), .ref (h 4), .int 0, .ref (h 5), .int 0, .ref (h 6), .int 0, .ref (h 7), .int 0])), ((h 3), .inl ((cs 9), 10, .inr (.inr (.inr (.inr (fun _ => none)))))), (o, .inl (cL, 1, .inr (.inl (fun _ => 0))))] s.heap := hP
  have hl := lv_entry ([.ref (h 0), .int p0, .int p1, .ref o]) (n := 5) (Nat.le_of_ble_eq_true rfl)
  rw [lg_entry_eq]
  generalize (lg_sl ([.ref (h 0), .int p0, .int p1, .ref o]) ++ List.replicate (5 - (lg_sl ([.ref (h 0), .int p0, .int p1, .ref o])).length) Slot.unset).toArray = ls at hl ⊢
  have hl : lv_has ls 5 [(0, .ref (h 0)), (1, .int p0), (2, .int p1), (3, .ref o)] := hl
  skip
  refine lv_aload_n hx hb dL_direction_0 rfl (lv_at hl 3 rfl) ?_
  refine lv_iconst (v := 0) hx hb dL_direction_1 (by decide) ?_
  refine lv_aload_n hx hb dL_direction_2 rfl (lv_at hl 0 rfl) ?_
  refine lv_iload_n hx hb dL_direction_3 rfl (lv_at hl 1 rfl) ?_
  refine lv_iload_n hx hb dL_direction_4 rfl (lv_at hl 2 rfl) ?_
  have hPc := hP.sub (ws' := [((h 0), .inr (11, [.ref (h 1), .ref (h 9), .int 0, .int 0, .ref (h 20), .ref (h 37), .int 0, .ref (h 38), .ref (h 42), .ref (h 43), .ref (h 44), .ref (h 45), .ref (h 46), .ref (h 47), .ref (h 48)])), ((h 1), .inr (8, [.ref (h 2), .int 0, .ref (h 3), .ref (h 4), .int 0, .ref (h 5), .int 0, .ref (h 6), .int 0, .ref (h 7), .int 0])), ((h 3), .inl ((cs 9), 10, .inr (.inr (.inr (.inr (fun _ => none))))))]) [0, 1, 2] rfl
  have hDc := hD.sub (ws' := [((h 0), .inr (11, [.ref (h 1), .ref (h 9), .int 0, .int 0, .ref (h 20), .ref (h 37), .int 0, .ref (h 38), .ref (h 42), .ref (h 43), .ref (h 44), .ref (h 45), .ref (h 46), .ref (h 47), .ref (h 48)])), ((h 1), .inr (8, [.ref (h 2), .int 0, .ref (h 3), .ref (h 4), .int 0, .ref (h 5), .int 0, .ref (h 6), .int 0, .ref (h 7), .int 0])), ((h 3), .inl ((cs 9), 10, .inr (.inr (.inr (.inr (fun _ => none))))))]) [0, 1, 2] (by decide) rfl
  have hKc := hK.sub (tys' := [((cs 9), .object RX9)]) [0] rfl
  have hFc := va_free (wc := [((h 0), .inr (11, [.ref (h 1), .ref (h 9), .int 0, .int 0, .ref (h 20), .ref (h 37), .int 0, .ref (h 38), .ref (h 42), .ref (h 43), .ref (h 44), .ref (h 45), .ref (h 46), .ref (h 47), .ref (h 48)])), ((h 1), .inr (8, [.ref (h 2), .int 0, .ref (h 3), .ref (h 4), .int 0, .ref (h 5), .int 0, .ref (h 6), .int 0, .ref (h 7), .int 0])), ((h 3), .inl ((cs 9), 10, .inr (.inr (.inr (.inr (fun _ => none))))))]) hD hS hA [0, 1, 2] rfl
  refine vx_calli (vx_runV (As := [.int p0, .int p1]) (rest := [.int 0, .ref o]) ⟨hx, hb, hml, hown, ht⟩ (k_X11_direction l hl0 _ D h cs p0 p1) (cwV 2 ht (zG_V zw_716 zw_717 zw_718 zw_404 zw_719) rfl rfl rfl (by decide +kernel) ⟨Nat.le_of_ble_eq_true rfl, Nat.le_of_ble_eq_true rfl⟩) (zW_V (va_recv hK hP (ci := 11) (q0 := 0) rfl rfl) hEx hS hFc hPc hKc hDc) rfl rfl hl.1 rfl (lv_room (Nat.le_of_ble_eq_true rfl)) dL_direction_5 ⟨Nat.le_of_ble_eq_true rfl, Nat.le_of_ble_eq_true rfl⟩) hS (fun q _ h => hFc q h) hFc (fun q _ h => hFc q h) (fun E ce q9 uu t H1 locs1 ht0 hvm hpx hB hz1 hk1 hS hcell hv hcl => ?_) (fun r_1 u_1 t H1 locs ht0 hvm hw_1 hB hz1 hk1 hS => ?_)
  · skip
    rcases hB with ⟨rfl, hb9⟩ | ⟨rfl, hb9⟩
    · skip
      obtain ⟨hP, hD⟩ := va_join (wr := [(o, .inl (cL, 1, .inr (.inl (fun _ => 0))))]) (w1 := []) hP hD [0, 1, 2] [3] rfl rfl (by decide) (by decide) hk1 hFc zP_nil zD_nil
      refine vx_catch (name := "java/lang/IndexOutOfBoundsException") hown [] ⟨0, 10, 13, 21⟩ [⟨0, 10, 17, 15⟩] hTab ((fun _ h => nomatch h)) (by decide) (by decide) (ht _ zw_597) (va_Nw.use rfl (hEx.1.2.2.2.1 "java/lang/IndexOutOfBoundsException" (by decide))) hcell hv hcl ?_
      generalize H1 = H at hP hS ⊢
      have hP : va_P D vwCl [(o, .inl (cL, 1, .inr (.inl (fun _ => 0))))] H := hP
      have hD : va_D A [(o, .inl (cL, 1, .inr (.inl (fun _ => 0))))] := hD
      refine W.widen (k := 2) (n := 12) (Nat.le_of_ble_eq_true rfl) (Nat.le_of_ble_eq_true rfl) ?_
      refine lv_astore (lv' := [(4, .ref q9), (0, .ref (h 0)), (1, .int p0), (2, .int p1), (3, .ref o)]) hx hb dL_direction_13 hl (by decide) rfl (fun ls hl => ?_)
      refine lv_iconst (v := 1) hx hb dL_direction_15 (by decide) ?_
      have hP9 := hP.sub (ws' := [(o, .inl (cL, 1, .inr (.inl (fun _ => 0))))]) [0] rfl
      have hD9 := hD.sub (ws' := [(o, .inl (cL, 1, .inr (.inl (fun _ => 0))))]) [0] (by decide) rfl
      have hK9 := hK.sub (tys' := []) [] rfl
      refine W.widen (k := 2) (n := 12) (Nat.le_of_ble_eq_true rfl) (Nat.le_of_ble_eq_true rfl) ?_
      exact W.iret (v := 1) hx hb hr (fun t ht0 hW => ⟨⟨1, 0, rfl, hb9, (fun _ => 0), rfl, zE_of hP9 hK9 hD9 ht0 hW⟩, hS.F ht0⟩) hS.2.2 dL_direction_16
    · skip
      obtain ⟨hP, hD⟩ := va_join (wr := [(o, .inl (cL, 1, .inr (.inl (fun _ => 0))))]) (w1 := []) hP hD [0, 1, 2] [3] rfl rfl (by decide) (by decide) hk1 hFc zP_nil zD_nil
      refine vx_catch (name := "java/lang/IllegalStateException") hown [⟨0, 10, 13, 21⟩] ⟨0, 10, 17, 15⟩ [] hTab (List.forall_mem_cons.mpr ⟨.inr ⟨by decide, "java/lang/IndexOutOfBoundsException", ht _ zw_597, hNc ("java/lang/IllegalStateException", "java/lang/IndexOutOfBoundsException") (by decide)⟩, (fun _ h => nomatch h)⟩) (by decide) (by decide) (ht _ zw_610) (va_Nw.use rfl (hEx.1.2.2.2.1 "java/lang/IllegalStateException" (by decide))) hcell hv hcl ?_
      generalize H1 = H at hP hS ⊢
      have hP : va_P D vwCl [(o, .inl (cL, 1, .inr (.inl (fun _ => 0))))] H := hP
      have hD : va_D A [(o, .inl (cL, 1, .inr (.inl (fun _ => 0))))] := hD
      refine W.widen (k := 2) (n := 12) (Nat.le_of_ble_eq_true rfl) (Nat.le_of_ble_eq_true rfl) ?_
      refine lv_astore (lv' := [(4, .ref q9), (0, .ref (h 0)), (1, .int p0), (2, .int p1), (3, .ref o)]) hx hb dL_direction_17 hl (by decide) rfl (fun ls hl => ?_)
      refine lv_iconst (v := 2) hx hb dL_direction_19 (by decide) ?_
      have hP9 := hP.sub (ws' := [(o, .inl (cL, 1, .inr (.inl (fun _ => 0))))]) [0] rfl
      have hD9 := hD.sub (ws' := [(o, .inl (cL, 1, .inr (.inl (fun _ => 0))))]) [0] (by decide) rfl
      have hK9 := hK.sub (tys' := []) [] rfl
      refine W.widen (k := 2) (n := 12) (Nat.le_of_ble_eq_true rfl) (Nat.le_of_ble_eq_true rfl) ?_
      exact W.iret (v := 2) hx hb hr (fun t ht0 hW => ⟨⟨2, 0, rfl, hb9, (fun _ => 0), rfl, zE_of hP9 hK9 hD9 ht0 hW⟩, hS.F ht0⟩) hS.2.2 dL_direction_20
  obtain ⟨hP1, hK1, hD1⟩ := hB
  rw [ht0] at hP1
  have hK1 := va_K.moved hvm.symm hK1
  obtain ⟨hP, hD⟩ := va_join (wr := [(o, .inl (cL, 1, .inr (.inl (fun _ => 0))))]) (w1 := []) hP hD [0, 1, 2] [3] rfl rfl (by decide) (by decide) hk1 hFc hP1 hD1
  generalize H1 = H at hP hS ⊢
  have hP : va_P D vwCl [(o, .inl (cL, 1, .inr (.inl (fun _ => 0))))] H := hP
  have hD : va_D A [(o, .inl (cL, 1, .inr (.inl (fun _ => 0))))] := hD
  refine W.widen (k := 2) (n := 12) (Nat.le_of_ble_eq_true rfl) (Nat.le_of_ble_eq_true rfl) ?_
  exfalso
  unfold zS_direction at hw_1
  rcases hw_1 with ⟨h9, -⟩ | ⟨h9, -⟩
  · exact absurd h9 (by decide)
  · exact absurd h9 (by decide)
set_option maxHeartbeats 4000000 in
set_option maxRecDepth 100000 in
theorem k_L_lawAt (l : Launch) (hl0 : l.stackTraces = false) (sz : Nat) (D : va_G) (h cs : Nat → Nat) (p0 p1 : Int32) (o : Nat) (cL : ClassId) : Met l yL_lawAt (.codeWith yL_lawAt cL_lawAt 5 (some .int) [(0, 10, 13, 41), (0, 10, 17, 13)] :: zT) ({ frames := 8, cells := 1, slots := 6, locals := 135 }) (va_Pc [.ref (h 0), .int p0, .int p1, .ref o] (zY D [((h 0), .inr (11, [.ref (h 1), .ref (h 9), .int 0, .int 0, .ref (h 20), .ref (h 37), .int 0, .ref (h 38), .ref (h 42), .ref (h 43), .ref (h 44), .ref (h 45), .ref (h 46), .ref (h 47), .ref (h 48)])), ((h 1), .inr (8, [.ref (h 2), .int 0, .ref (h 3), .ref (h 4), .int 0, .ref (h 5), .int 0, .ref (h 6), .int 0, .ref (h 7), .int 0])), ((h 4), .inl ((cs 4), 100, .inr (.inr (.inr (.inr (fun _ => none)))))), (o, .inl (cL, 1, .inr (.inl (fun _ => 0))))] [((cs 4), .object RX4), (cL, .long)] sz)) (va_Qi (fun (r u : Int32) => zS_lawAt p0 p1 r u) (fun u t => ∃ g2 : Nat → Int64, g2 0 = u.toInt64 ∧ zE D [(o, .inl (cL, 1, .inr (.inl g2)))] [] (va_A [((h 0), .inr (11, [.ref (h 1), .ref (h 9), .int 0, .int 0, .ref (h 20), .ref (h 37), .int 0, .ref (h 38), .ref (h 42), .ref (h 43), .ref (h 44), .ref (h 45), .ref (h 46), .ref (h 47), .ref (h 48)])), ((h 1), .inr (8, [.ref (h 2), .int 0, .ref (h 3), .ref (h 4), .int 0, .ref (h 5), .int 0, .ref (h 6), .int 0, .ref (h 7), .int 0])), ((h 4), .inl ((cs 4), 100, .inr (.inr (.inr (.inr (fun _ => none)))))), (o, .inl (cL, 1, .inr (.inl (fun _ => 0))))] sz) t) (va_A [((h 0), .inr (11, [.ref (h 1), .ref (h 9), .int 0, .int 0, .ref (h 20), .ref (h 37), .int 0, .ref (h 38), .ref (h 42), .ref (h 43), .ref (h 44), .ref (h 45), .ref (h 46), .ref (h 47), .ref (h 48)])), ((h 1), .inr (8, [.ref (h 2), .int 0, .ref (h 3), .ref (h 4), .int 0, .ref (h 5), .int 0, .ref (h 6), .int 0, .ref (h 7), .int 0])), ((h 4), .inl ((cs 4), 100, .inr (.inr (.inr (.inr (fun _ => none)))))), (o, .inl (cL, 1, .inr (.inl (fun _ => 0))))] sz)) 1 6 (va_A [((h 0), .inr (11, [.ref (h 1), .ref (h 9), .int 0, .int 0, .ref (h 20), .ref (h 37), .int 0, .ref (h 38), .ref (h 42), .ref (h 43), .ref (h 44), .ref (h 45), .ref (h 46), .ref (h 47), .ref (h 48)])), ((h 1), .inr (8, [.ref (h 2), .int 0, .ref (h 3), .ref (h 4), .int 0, .ref (h 5), .int 0, .ref (h 6), .int 0, .ref (h 7), .int 0])), ((h 4), .inl ((cs 4), 100, .inr (.inr (.inr (.inr (fun _ => none)))))), (o, .inl (cL, 1, .inr (.inl (fun _ => 0))))] sz) := by
  refine zOfWH (cc := cL_lawAt) (maxL := 5) (ret := (some .int)) (by decide) rfl ?_
  intro p e s m args below meth c s₁ B hml hv
  obtain ⟨rfl, hNc, hEx, hsz, hP, hK, hD0⟩ := hv
  have hx := B.exec
  have hb := B.bytes
  have hr := B.returns
  have hts := atoms_spec (ws := (.codeWith yL_lawAt cL_lawAt 5 (some .int) [(0, 10, 13, 41), (0, 10, 17, 13)] :: zT)) B.pre
  have ht : ∀ w ∈ zT, w.before _ s = true := fun w h => hts w (List.mem_cons_of_mem _ h)
  have hown : s.vm.findClass RL = some m.cls := findClass_of_methodNamed B.named
  have hlocks := B.notSynchronized
  have hTab := vx_table (x := yL_lawAt) B (hts _ List.mem_cons_self)
  subst hsz
  have hD := hD0.self (sz := s.heap.size)
  generalize hAe : va_A [((h 0), .inr (11, [.ref (h 1), .ref (h 9), .int 0, .int 0, .ref (h 20), .ref (h 37), .int 0, .ref (h 38), .ref (h 42), .ref (h 43), .ref (h 44), .ref (h 45), .ref (h 46), .ref (h 47), .ref (h 48)])), ((h 1), .inr (8, [.ref (h 2), .int 0, .ref (h 3), .ref (h 4), .int 0, .ref (h 5), .int 0, .ref (h 6), .int 0, .ref (h 7), .int 0])), ((h 4), .inl ((cs 4), 100, .inr (.inr (.inr (.inr (fun _ => none)))))), (o, .inl (cL, 1, .inr (.inl (fun _ => 0))))] s.heap.size = A at hD hEx ⊢
  have hA : ∀ q : Nat, s.heap.size ≤ q → A q := fun q h => by rw [← hAe]; exact Or.inr h
  have hS : va_S A s.heap s.heap [] := va_S.rf
  have hP : va_P D vwCl [((h 0), .inr (11, [.ref (h 1), .ref (h 9), .int 0, .int 0, .ref (h 20), .ref (h 37), .int 0, .ref (h 38), .ref (h 42), .ref (h 43), .ref (h 44), .ref (h 45), .ref (h 46), .ref (h 47), .ref (h 48)])), ((h 1), .inr (8, [.ref (h 2), .int 0, .ref (h 3), .ref (h 4), .int 0, .ref (h 5), .int 0, .ref (h 6), .int 0, .ref (h 7), .int 0])), ((h 4), .inl ((cs 4), 100, .inr (.inr (.inr (.inr (fun _ => none)))))), (o, .inl (cL, 1, .inr (.inl (fun _ => 0))))] s.heap := hP
  have hl := lv_entry ([.ref (h 0), .int p0, .int p1, .ref o]) (n := 5) (Nat.le_of_ble_eq_true rfl)
  rw [lg_entry_eq]
  generalize (lg_sl ([.ref (h 0), .int p0, .int p1, .ref o]) ++ List.replicate (5 - (lg_sl ([.ref (h 0), .int p0, .int p1, .ref o])).length) Slot.unset).toArray = ls at hl ⊢
  have hl : lv_has ls 5 [(0, .ref (h 0)), (1, .int p0), (2, .int p1), (3, .ref o)] := hl
  skip
  refine lv_aload_n hx hb dL_lawAt_0 rfl (lv_at hl 3 rfl) ?_
  refine lv_iconst (v := 0) hx hb dL_lawAt_1 (by decide) ?_
  refine lv_aload_n hx hb dL_lawAt_2 rfl (lv_at hl 0 rfl) ?_
  refine lv_iload_n hx hb dL_lawAt_3 rfl (lv_at hl 1 rfl) ?_
  refine lv_iload_n hx hb dL_lawAt_4 rfl (lv_at hl 2 rfl) ?_
  have hPc := hP.sub (ws' := [((h 0), .inr (11, [.ref (h 1), .ref (h 9), .int 0, .int 0, .ref (h 20), .ref (h 37), .int 0, .ref (h 38), .ref (h 42), .ref (h 43), .ref (h 44), .ref (h 45), .ref (h 46), .ref (h 47), .ref (h 48)])), ((h 1), .inr (8, [.ref (h 2), .int 0, .ref (h 3), .ref (h 4), .int 0, .ref (h 5), .int 0, .ref (h 6), .int 0, .ref (h 7), .int 0])), ((h 4), .inl ((cs 4), 100, .inr (.inr (.inr (.inr (fun _ => none))))))]) [0, 1, 2] rfl
  have hDc := hD.sub (ws' := [((h 0), .inr (11, [.ref (h 1), .ref (h 9), .int 0, .int 0, .ref (h 20), .ref (h 37), .int 0, .ref (h 38), .ref (h 42), .ref (h 43), .ref (h 44), .ref (h 45), .ref (h 46), .ref (h 47), .ref (h 48)])), ((h 1), .inr (8, [.ref (h 2), .int 0, .ref (h 3), .ref (h 4), .int 0, .ref (h 5), .int 0, .ref (h 6), .int 0, .ref (h 7), .int 0])), ((h 4), .inl ((cs 4), 100, .inr (.inr (.inr (.inr (fun _ => none))))))]) [0, 1, 2] (by decide) rfl
  have hKc := hK.sub (tys' := [((cs 4), .object RX4)]) [0] rfl
  have hFc := va_free (wc := [((h 0), .inr (11, [.ref (h 1), .ref (h 9), .int 0, .int 0, .ref (h 20), .ref (h 37), .int 0, .ref (h 38), .ref (h 42), .ref (h 43), .ref (h 44), .ref (h 45), .ref (h 46), .ref (h 47), .ref (h 48)])), ((h 1), .inr (8, [.ref (h 2), .int 0, .ref (h 3), .ref (h 4), .int 0, .ref (h 5), .int 0, .ref (h 6), .int 0, .ref (h 7), .int 0])), ((h 4), .inl ((cs 4), 100, .inr (.inr (.inr (.inr (fun _ => none))))))]) hD hS hA [0, 1, 2] rfl
  refine vx_calli (vx_runV (As := [.int p0, .int p1]) (rest := [.int 0, .ref o]) ⟨hx, hb, hml, hown, ht⟩ (k_X11_lawAt l hl0 _ D h cs p0 p1) (cwV 2 ht (zG_V zw_720 zw_721 zw_722 zw_404 zw_723) rfl rfl rfl (by decide +kernel) ⟨Nat.le_of_ble_eq_true rfl, Nat.le_of_ble_eq_true rfl⟩) (zW_V (va_recv hK hP (ci := 11) (q0 := 0) rfl rfl) hEx hS hFc hPc hKc hDc) rfl rfl hl.1 rfl (lv_room (Nat.le_of_ble_eq_true rfl)) dL_lawAt_5 ⟨Nat.le_of_ble_eq_true rfl, Nat.le_of_ble_eq_true rfl⟩) hS (fun q _ h => hFc q h) hFc (fun q _ h => hFc q h) (fun E ce q9 uu t H1 locs1 ht0 hvm hpx hB hz1 hk1 hS hcell hv hcl => ?_) (fun r_1 u_1 t H1 locs ht0 hvm hw_1 hB hz1 hk1 hS => ?_)
  · skip
    obtain ⟨rfl, hb9⟩ := hB
    obtain ⟨hP, hD⟩ := va_join (wr := [(o, .inl (cL, 1, .inr (.inl (fun _ => 0))))]) (w1 := []) hP hD [0, 1, 2] [3] rfl rfl (by decide) (by decide) hk1 hFc zP_nil zD_nil
    refine vx_catch (name := "java/util/NoSuchElementException") hown [] ⟨0, 10, 13, 41⟩ [⟨0, 10, 17, 13⟩] hTab ((fun _ h => nomatch h)) (by decide) (by decide) (ht _ zw_619) (va_Nw.use rfl (hEx.1.2.2.2.1 "java/util/NoSuchElementException" (by decide))) hcell hv hcl ?_
    generalize H1 = H at hP hS ⊢
    have hP : va_P D vwCl [(o, .inl (cL, 1, .inr (.inl (fun _ => 0))))] H := hP
    have hD : va_D A [(o, .inl (cL, 1, .inr (.inl (fun _ => 0))))] := hD
    refine W.widen (k := 1) (n := 6) (Nat.le_of_ble_eq_true rfl) (Nat.le_of_ble_eq_true rfl) ?_
    refine lv_astore (lv' := [(4, .ref q9), (0, .ref (h 0)), (1, .int p0), (2, .int p1), (3, .ref o)]) hx hb dL_lawAt_13 hl (by decide) rfl (fun ls hl => ?_)
    refine lv_iconst (v := 1) hx hb dL_lawAt_15 (by decide) ?_
    have hP9 := hP.sub (ws' := [(o, .inl (cL, 1, .inr (.inl (fun _ => 0))))]) [0] rfl
    have hD9 := hD.sub (ws' := [(o, .inl (cL, 1, .inr (.inl (fun _ => 0))))]) [0] (by decide) rfl
    have hK9 := hK.sub (tys' := []) [] rfl
    refine W.widen (k := 1) (n := 6) (Nat.le_of_ble_eq_true rfl) (Nat.le_of_ble_eq_true rfl) ?_
    exact W.iret (v := 1) hx hb hr (fun t ht0 hW => ⟨⟨1, 0, rfl, hb9, (fun _ => 0), rfl, zE_of hP9 hK9 hD9 ht0 hW⟩, hS.F ht0⟩) hS.2.2 dL_lawAt_16
  obtain ⟨hP1, hK1, hD1⟩ := hB
  rw [ht0] at hP1
  have hK1 := va_K.moved hvm.symm hK1
  obtain ⟨hP, hD⟩ := va_join (wr := [(o, .inl (cL, 1, .inr (.inl (fun _ => 0))))]) (w1 := []) hP hD [0, 1, 2] [3] rfl rfl (by decide) (by decide) hk1 hFc hP1 hD1
  generalize H1 = H at hP hS ⊢
  have hP : va_P D vwCl [(o, .inl (cL, 1, .inr (.inl (fun _ => 0))))] H := hP
  have hD : va_D A [(o, .inl (cL, 1, .inr (.inl (fun _ => 0))))] := hD
  refine W.widen (k := 1) (n := 6) (Nat.le_of_ble_eq_true rfl) (Nat.le_of_ble_eq_true rfl) ?_
  exfalso
  unfold zS_lawAt at hw_1
  obtain ⟨h9, -⟩ := hw_1
  exact absurd h9 (by decide)
set_option maxHeartbeats 4000000 in
set_option maxRecDepth 100000 in
theorem k_L_rests (l : Launch) (hl0 : l.stackTraces = false) (sz : Nat) (D : va_G) (h cs : Nat → Nat) (p0 p1 : Int32) (o : Nat) (cL : ClassId) : Met l yL_rests (.codeWith yL_rests cL_rests 5 (some .int) [(0, 17, 20, 41)] :: zT) ({ frames := 8, cells := 1, slots := 6, locals := 136 }) (va_Pc [.ref (h 0), .int p0, .int p1, .ref o] (zY D [((h 0), .inr (11, [.ref (h 1), .ref (h 9), .int 0, .int 0, .ref (h 20), .ref (h 37), .int 0, .ref (h 38), .ref (h 42), .ref (h 43), .ref (h 44), .ref (h 45), .ref (h 46), .ref (h 47), .ref (h 48)])), ((h 1), .inr (8, [.ref (h 2), .int 0, .ref (h 3), .ref (h 4), .int 0, .ref (h 5), .int 0, .ref (h 6), .int 0, .ref (h 7), .int 0])), ((h 4), .inl ((cs 4), 100, .inr (.inr (.inr (.inr (fun _ => none)))))), (o, .inl (cL, 1, .inr (.inl (fun _ => 0))))] [((cs 4), .object RX4), (cL, .long)] sz)) (va_Qi (fun (r u : Int32) => zS_rests p0 p1 r u) (fun u t => ∃ g2 : Nat → Int64, g2 0 = u.toInt64 ∧ zE D [(o, .inl (cL, 1, .inr (.inl g2)))] [] (va_A [((h 0), .inr (11, [.ref (h 1), .ref (h 9), .int 0, .int 0, .ref (h 20), .ref (h 37), .int 0, .ref (h 38), .ref (h 42), .ref (h 43), .ref (h 44), .ref (h 45), .ref (h 46), .ref (h 47), .ref (h 48)])), ((h 1), .inr (8, [.ref (h 2), .int 0, .ref (h 3), .ref (h 4), .int 0, .ref (h 5), .int 0, .ref (h 6), .int 0, .ref (h 7), .int 0])), ((h 4), .inl ((cs 4), 100, .inr (.inr (.inr (.inr (fun _ => none)))))), (o, .inl (cL, 1, .inr (.inl (fun _ => 0))))] sz) t) (va_A [((h 0), .inr (11, [.ref (h 1), .ref (h 9), .int 0, .int 0, .ref (h 20), .ref (h 37), .int 0, .ref (h 38), .ref (h 42), .ref (h 43), .ref (h 44), .ref (h 45), .ref (h 46), .ref (h 47), .ref (h 48)])), ((h 1), .inr (8, [.ref (h 2), .int 0, .ref (h 3), .ref (h 4), .int 0, .ref (h 5), .int 0, .ref (h 6), .int 0, .ref (h 7), .int 0])), ((h 4), .inl ((cs 4), 100, .inr (.inr (.inr (.inr (fun _ => none)))))), (o, .inl (cL, 1, .inr (.inl (fun _ => 0))))] sz)) 1 6 (va_A [((h 0), .inr (11, [.ref (h 1), .ref (h 9), .int 0, .int 0, .ref (h 20), .ref (h 37), .int 0, .ref (h 38), .ref (h 42), .ref (h 43), .ref (h 44), .ref (h 45), .ref (h 46), .ref (h 47), .ref (h 48)])), ((h 1), .inr (8, [.ref (h 2), .int 0, .ref (h 3), .ref (h 4), .int 0, .ref (h 5), .int 0, .ref (h 6), .int 0, .ref (h 7), .int 0])), ((h 4), .inl ((cs 4), 100, .inr (.inr (.inr (.inr (fun _ => none)))))), (o, .inl (cL, 1, .inr (.inl (fun _ => 0))))] sz) := by
  refine zOfWH (cc := cL_rests) (maxL := 5) (ret := (some .int)) (by decide) rfl ?_
  intro p e s m args below meth c s₁ B hml hv
  obtain ⟨rfl, hNc, hEx, hsz, hP, hK, hD0⟩ := hv
  have hx := B.exec
  have hb := B.bytes
  have hr := B.returns
  have hts := atoms_spec (ws := (.codeWith yL_rests cL_rests 5 (some .int) [(0, 17, 20, 41)] :: zT)) B.pre
  have ht : ∀ w ∈ zT, w.before _ s = true := fun w h => hts w (List.mem_cons_of_mem _ h)
  have hown : s.vm.findClass RL = some m.cls := findClass_of_methodNamed B.named
  have hlocks := B.notSynchronized
  have hTab := vx_table (x := yL_rests) B (hts _ List.mem_cons_self)
  subst hsz
  have hD := hD0.self (sz := s.heap.size)
  generalize hAe : va_A [((h 0), .inr (11, [.ref (h 1), .ref (h 9), .int 0, .int 0, .ref (h 20), .ref (h 37), .int 0, .ref (h 38), .ref (h 42), .ref (h 43), .ref (h 44), .ref (h 45), .ref (h 46), .ref (h 47), .ref (h 48)])), ((h 1), .inr (8, [.ref (h 2), .int 0, .ref (h 3), .ref (h 4), .int 0, .ref (h 5), .int 0, .ref (h 6), .int 0, .ref (h 7), .int 0])), ((h 4), .inl ((cs 4), 100, .inr (.inr (.inr (.inr (fun _ => none)))))), (o, .inl (cL, 1, .inr (.inl (fun _ => 0))))] s.heap.size = A at hD hEx ⊢
  have hA : ∀ q : Nat, s.heap.size ≤ q → A q := fun q h => by rw [← hAe]; exact Or.inr h
  have hS : va_S A s.heap s.heap [] := va_S.rf
  have hP : va_P D vwCl [((h 0), .inr (11, [.ref (h 1), .ref (h 9), .int 0, .int 0, .ref (h 20), .ref (h 37), .int 0, .ref (h 38), .ref (h 42), .ref (h 43), .ref (h 44), .ref (h 45), .ref (h 46), .ref (h 47), .ref (h 48)])), ((h 1), .inr (8, [.ref (h 2), .int 0, .ref (h 3), .ref (h 4), .int 0, .ref (h 5), .int 0, .ref (h 6), .int 0, .ref (h 7), .int 0])), ((h 4), .inl ((cs 4), 100, .inr (.inr (.inr (.inr (fun _ => none)))))), (o, .inl (cL, 1, .inr (.inl (fun _ => 0))))] s.heap := hP
  have hl := lv_entry ([.ref (h 0), .int p0, .int p1, .ref o]) (n := 5) (Nat.le_of_ble_eq_true rfl)
  rw [lg_entry_eq]
  generalize (lg_sl ([.ref (h 0), .int p0, .int p1, .ref o]) ++ List.replicate (5 - (lg_sl ([.ref (h 0), .int p0, .int p1, .ref o])).length) Slot.unset).toArray = ls at hl ⊢
  have hl : lv_has ls 5 [(0, .ref (h 0)), (1, .int p0), (2, .int p1), (3, .ref o)] := hl
  skip
  refine lv_aload_n hx hb dL_rests_0 rfl (lv_at hl 3 rfl) ?_
  refine lv_iconst (v := 0) hx hb dL_rests_1 (by decide) ?_
  refine lv_aload_n hx hb dL_rests_2 rfl (lv_at hl 0 rfl) ?_
  refine lv_iload_n hx hb dL_rests_3 rfl (lv_at hl 1 rfl) ?_
  refine lv_iload_n hx hb dL_rests_4 rfl (lv_at hl 2 rfl) ?_
  have hPc := hP.sub (ws' := [((h 0), .inr (11, [.ref (h 1), .ref (h 9), .int 0, .int 0, .ref (h 20), .ref (h 37), .int 0, .ref (h 38), .ref (h 42), .ref (h 43), .ref (h 44), .ref (h 45), .ref (h 46), .ref (h 47), .ref (h 48)])), ((h 1), .inr (8, [.ref (h 2), .int 0, .ref (h 3), .ref (h 4), .int 0, .ref (h 5), .int 0, .ref (h 6), .int 0, .ref (h 7), .int 0])), ((h 4), .inl ((cs 4), 100, .inr (.inr (.inr (.inr (fun _ => none))))))]) [0, 1, 2] rfl
  have hDc := hD.sub (ws' := [((h 0), .inr (11, [.ref (h 1), .ref (h 9), .int 0, .int 0, .ref (h 20), .ref (h 37), .int 0, .ref (h 38), .ref (h 42), .ref (h 43), .ref (h 44), .ref (h 45), .ref (h 46), .ref (h 47), .ref (h 48)])), ((h 1), .inr (8, [.ref (h 2), .int 0, .ref (h 3), .ref (h 4), .int 0, .ref (h 5), .int 0, .ref (h 6), .int 0, .ref (h 7), .int 0])), ((h 4), .inl ((cs 4), 100, .inr (.inr (.inr (.inr (fun _ => none))))))]) [0, 1, 2] (by decide) rfl
  have hKc := hK.sub (tys' := [((cs 4), .object RX4)]) [0] rfl
  have hFc := va_free (wc := [((h 0), .inr (11, [.ref (h 1), .ref (h 9), .int 0, .int 0, .ref (h 20), .ref (h 37), .int 0, .ref (h 38), .ref (h 42), .ref (h 43), .ref (h 44), .ref (h 45), .ref (h 46), .ref (h 47), .ref (h 48)])), ((h 1), .inr (8, [.ref (h 2), .int 0, .ref (h 3), .ref (h 4), .int 0, .ref (h 5), .int 0, .ref (h 6), .int 0, .ref (h 7), .int 0])), ((h 4), .inl ((cs 4), 100, .inr (.inr (.inr (.inr (fun _ => none))))))]) hD hS hA [0, 1, 2] rfl
  refine vx_calli (vx_runV (As := [.int p0, .int p1]) (rest := [.int 0, .ref o]) ⟨hx, hb, hml, hown, ht⟩ (k_X11_rests l hl0 _ D h cs p0 p1) (cwV 2 ht (zG_V zw_724 zw_725 zw_726 zw_404 zw_727) rfl rfl rfl (by decide +kernel) ⟨Nat.le_of_ble_eq_true rfl, Nat.le_of_ble_eq_true rfl⟩) (zW_V (va_recv hK hP (ci := 11) (q0 := 0) rfl rfl) hEx hS hFc hPc hKc hDc) rfl rfl hl.1 rfl (lv_room (Nat.le_of_ble_eq_true rfl)) dL_rests_5 ⟨Nat.le_of_ble_eq_true rfl, Nat.le_of_ble_eq_true rfl⟩) hS (fun q _ h => hFc q h) hFc (fun q _ h => hFc q h) (fun E ce q9 uu t H1 locs1 ht0 hvm hpx hB hz1 hk1 hS hcell hv hcl => ?_) (fun r_1 u_1 t H1 locs ht0 hvm hw_1 hB hz1 hk1 hS => ?_)
  · skip
    obtain ⟨rfl, hb9⟩ := hB
    obtain ⟨hP, hD⟩ := va_join (wr := [(o, .inl (cL, 1, .inr (.inl (fun _ => 0))))]) (w1 := []) hP hD [0, 1, 2] [3] rfl rfl (by decide) (by decide) hk1 hFc zP_nil zD_nil
    refine vx_catch (name := "java/util/NoSuchElementException") hown [] ⟨0, 17, 20, 41⟩ [] hTab ((fun _ h => nomatch h)) (by decide) (by decide) (ht _ zw_619) (va_Nw.use rfl (hEx.1.2.2.2.1 "java/util/NoSuchElementException" (by decide))) hcell hv hcl ?_
    generalize H1 = H at hP hS ⊢
    have hP : va_P D vwCl [(o, .inl (cL, 1, .inr (.inl (fun _ => 0))))] H := hP
    have hD : va_D A [(o, .inl (cL, 1, .inr (.inl (fun _ => 0))))] := hD
    refine W.widen (k := 1) (n := 6) (Nat.le_of_ble_eq_true rfl) (Nat.le_of_ble_eq_true rfl) ?_
    refine lv_astore (lv' := [(4, .ref q9), (0, .ref (h 0)), (1, .int p0), (2, .int p1), (3, .ref o)]) hx hb dL_rests_20 hl (by decide) rfl (fun ls hl => ?_)
    refine lv_iconst (v := 1) hx hb dL_rests_22 (by decide) ?_
    have hP9 := hP.sub (ws' := [(o, .inl (cL, 1, .inr (.inl (fun _ => 0))))]) [0] rfl
    have hD9 := hD.sub (ws' := [(o, .inl (cL, 1, .inr (.inl (fun _ => 0))))]) [0] (by decide) rfl
    have hK9 := hK.sub (tys' := []) [] rfl
    refine W.widen (k := 1) (n := 6) (Nat.le_of_ble_eq_true rfl) (Nat.le_of_ble_eq_true rfl) ?_
    exact W.iret (v := 1) hx hb hr (fun t ht0 hW => ⟨⟨1, 0, rfl, hb9, (fun _ => 0), rfl, zE_of hP9 hK9 hD9 ht0 hW⟩, hS.F ht0⟩) hS.2.2 dL_rests_23
  obtain ⟨hP1, hK1, hD1⟩ := hB
  rw [ht0] at hP1
  have hK1 := va_K.moved hvm.symm hK1
  obtain ⟨hP, hD⟩ := va_join (wr := [(o, .inl (cL, 1, .inr (.inl (fun _ => 0))))]) (w1 := []) hP hD [0, 1, 2] [3] rfl rfl (by decide) (by decide) hk1 hFc hP1 hD1
  generalize H1 = H at hP hS ⊢
  have hP : va_P D vwCl [(o, .inl (cL, 1, .inr (.inl (fun _ => 0))))] H := hP
  have hD : va_D A [(o, .inl (cL, 1, .inr (.inl (fun _ => 0))))] := hD
  refine W.widen (k := 1) (n := 6) (Nat.le_of_ble_eq_true rfl) (Nat.le_of_ble_eq_true rfl) ?_
  exfalso
  unfold zS_rests at hw_1
  obtain ⟨h9, -⟩ := hw_1
  exact absurd h9 (by decide)
set_option maxHeartbeats 4000000 in
set_option maxRecDepth 100000 in
theorem k_L_lines (l : Launch) (hl0 : l.stackTraces = false) (sz : Nat) (D : va_G) (h cs : Nat → Nat) (p0 : Int32) (fn : Nat → Option Nat) (hn : ∀ k : Nat, k < 4 → fn k = some (h 8)) (o : Nat) (cL : ClassId) : Met l yL_lines (.codeWith yL_lines cL_lines 4 (some .int) [(0, 9, 12, 21)] :: zT) ({ frames := 8, cells := 1, slots := 6, locals := 132 }) (va_Pc [.ref (h 0), .int p0, .ref o] (zY D [((h 0), .inr (11, [.ref (h 1), .ref (h 9), .int 0, .int 0, .ref (h 20), .ref (h 37), .int 0, .ref (h 38), .ref (h 42), .ref (h 43), .ref (h 44), .ref (h 45), .ref (h 46), .ref (h 47), .ref (h 48)])), ((h 1), .inr (8, [.ref (h 2), .int 0, .ref (h 3), .ref (h 4), .int 0, .ref (h 5), .int 0, .ref (h 6), .int 0, .ref (h 7), .int 0])), ((h 7), .inl ((cs 0), 4, .inr (.inr (.inr (.inr fn))))), ((h 8), .inr (0, [.ref (h 102), .ref (h 103), .int 0])), (o, .inl (cL, 1, .inr (.inl (fun _ => 0))))] [((cs 0), .object RX0), (cL, .long)] sz)) (va_Qi (fun (r u : Int32) => zS_lines p0 r u) (fun u t => ∃ g2 : Nat → Int64, g2 0 = u.toInt64 ∧ zE D [(o, .inl (cL, 1, .inr (.inl g2)))] [] (va_A [((h 0), .inr (11, [.ref (h 1), .ref (h 9), .int 0, .int 0, .ref (h 20), .ref (h 37), .int 0, .ref (h 38), .ref (h 42), .ref (h 43), .ref (h 44), .ref (h 45), .ref (h 46), .ref (h 47), .ref (h 48)])), ((h 1), .inr (8, [.ref (h 2), .int 0, .ref (h 3), .ref (h 4), .int 0, .ref (h 5), .int 0, .ref (h 6), .int 0, .ref (h 7), .int 0])), ((h 7), .inl ((cs 0), 4, .inr (.inr (.inr (.inr fn))))), ((h 8), .inr (0, [.ref (h 102), .ref (h 103), .int 0])), (o, .inl (cL, 1, .inr (.inl (fun _ => 0))))] sz) t) (va_A [((h 0), .inr (11, [.ref (h 1), .ref (h 9), .int 0, .int 0, .ref (h 20), .ref (h 37), .int 0, .ref (h 38), .ref (h 42), .ref (h 43), .ref (h 44), .ref (h 45), .ref (h 46), .ref (h 47), .ref (h 48)])), ((h 1), .inr (8, [.ref (h 2), .int 0, .ref (h 3), .ref (h 4), .int 0, .ref (h 5), .int 0, .ref (h 6), .int 0, .ref (h 7), .int 0])), ((h 7), .inl ((cs 0), 4, .inr (.inr (.inr (.inr fn))))), ((h 8), .inr (0, [.ref (h 102), .ref (h 103), .int 0])), (o, .inl (cL, 1, .inr (.inl (fun _ => 0))))] sz)) 1 6 (va_A [((h 0), .inr (11, [.ref (h 1), .ref (h 9), .int 0, .int 0, .ref (h 20), .ref (h 37), .int 0, .ref (h 38), .ref (h 42), .ref (h 43), .ref (h 44), .ref (h 45), .ref (h 46), .ref (h 47), .ref (h 48)])), ((h 1), .inr (8, [.ref (h 2), .int 0, .ref (h 3), .ref (h 4), .int 0, .ref (h 5), .int 0, .ref (h 6), .int 0, .ref (h 7), .int 0])), ((h 7), .inl ((cs 0), 4, .inr (.inr (.inr (.inr fn))))), ((h 8), .inr (0, [.ref (h 102), .ref (h 103), .int 0])), (o, .inl (cL, 1, .inr (.inl (fun _ => 0))))] sz) := by
  refine zOfWH (cc := cL_lines) (maxL := 4) (ret := (some .int)) (by decide) rfl ?_
  intro p e s m args below meth c s₁ B hml hv
  obtain ⟨rfl, hNc, hEx, hsz, hP, hK, hD0⟩ := hv
  have hx := B.exec
  have hb := B.bytes
  have hr := B.returns
  have hts := atoms_spec (ws := (.codeWith yL_lines cL_lines 4 (some .int) [(0, 9, 12, 21)] :: zT)) B.pre
  have ht : ∀ w ∈ zT, w.before _ s = true := fun w h => hts w (List.mem_cons_of_mem _ h)
  have hown : s.vm.findClass RL = some m.cls := findClass_of_methodNamed B.named
  have hlocks := B.notSynchronized
  have hTab := vx_table (x := yL_lines) B (hts _ List.mem_cons_self)
  subst hsz
  have hD := hD0.self (sz := s.heap.size)
  generalize hAe : va_A [((h 0), .inr (11, [.ref (h 1), .ref (h 9), .int 0, .int 0, .ref (h 20), .ref (h 37), .int 0, .ref (h 38), .ref (h 42), .ref (h 43), .ref (h 44), .ref (h 45), .ref (h 46), .ref (h 47), .ref (h 48)])), ((h 1), .inr (8, [.ref (h 2), .int 0, .ref (h 3), .ref (h 4), .int 0, .ref (h 5), .int 0, .ref (h 6), .int 0, .ref (h 7), .int 0])), ((h 7), .inl ((cs 0), 4, .inr (.inr (.inr (.inr fn))))), ((h 8), .inr (0, [.ref (h 102), .ref (h 103), .int 0])), (o, .inl (cL, 1, .inr (.inl (fun _ => 0))))] s.heap.size = A at hD hEx ⊢
  have hA : ∀ q : Nat, s.heap.size ≤ q → A q := fun q h => by rw [← hAe]; exact Or.inr h
  have hS : va_S A s.heap s.heap [] := va_S.rf
  have hP : va_P D vwCl [((h 0), .inr (11, [.ref (h 1), .ref (h 9), .int 0, .int 0, .ref (h 20), .ref (h 37), .int 0, .ref (h 38), .ref (h 42), .ref (h 43), .ref (h 44), .ref (h 45), .ref (h 46), .ref (h 47), .ref (h 48)])), ((h 1), .inr (8, [.ref (h 2), .int 0, .ref (h 3), .ref (h 4), .int 0, .ref (h 5), .int 0, .ref (h 6), .int 0, .ref (h 7), .int 0])), ((h 7), .inl ((cs 0), 4, .inr (.inr (.inr (.inr fn))))), ((h 8), .inr (0, [.ref (h 102), .ref (h 103), .int 0])), (o, .inl (cL, 1, .inr (.inl (fun _ => 0))))] s.heap := hP
  have hl := lv_entry ([.ref (h 0), .int p0, .ref o]) (n := 4) (Nat.le_of_ble_eq_true rfl)
  rw [lg_entry_eq]
  generalize (lg_sl ([.ref (h 0), .int p0, .ref o]) ++ List.replicate (4 - (lg_sl ([.ref (h 0), .int p0, .ref o])).length) Slot.unset).toArray = ls at hl ⊢
  have hl : lv_has ls 4 [(0, .ref (h 0)), (1, .int p0), (2, .ref o)] := hl
  skip
  refine lv_aload_n hx hb dL_lines_0 rfl (lv_at hl 2 rfl) ?_
  refine lv_iconst (v := 0) hx hb dL_lines_1 (by decide) ?_
  refine lv_aload_n hx hb dL_lines_2 rfl (lv_at hl 0 rfl) ?_
  refine lv_iload_n hx hb dL_lines_3 rfl (lv_at hl 1 rfl) ?_
  have hPc := hP.sub (ws' := [((h 0), .inr (11, [.ref (h 1), .ref (h 9), .int 0, .int 0, .ref (h 20), .ref (h 37), .int 0, .ref (h 38), .ref (h 42), .ref (h 43), .ref (h 44), .ref (h 45), .ref (h 46), .ref (h 47), .ref (h 48)])), ((h 1), .inr (8, [.ref (h 2), .int 0, .ref (h 3), .ref (h 4), .int 0, .ref (h 5), .int 0, .ref (h 6), .int 0, .ref (h 7), .int 0])), ((h 7), .inl ((cs 0), 4, .inr (.inr (.inr (.inr fn))))), ((h 8), .inr (0, [.ref (h 102), .ref (h 103), .int 0]))]) [0, 1, 2, 3] rfl
  have hDc := hD.sub (ws' := [((h 0), .inr (11, [.ref (h 1), .ref (h 9), .int 0, .int 0, .ref (h 20), .ref (h 37), .int 0, .ref (h 38), .ref (h 42), .ref (h 43), .ref (h 44), .ref (h 45), .ref (h 46), .ref (h 47), .ref (h 48)])), ((h 1), .inr (8, [.ref (h 2), .int 0, .ref (h 3), .ref (h 4), .int 0, .ref (h 5), .int 0, .ref (h 6), .int 0, .ref (h 7), .int 0])), ((h 7), .inl ((cs 0), 4, .inr (.inr (.inr (.inr fn))))), ((h 8), .inr (0, [.ref (h 102), .ref (h 103), .int 0]))]) [0, 1, 2, 3] (by decide) rfl
  have hKc := hK.sub (tys' := [((cs 0), .object RX0)]) [0] rfl
  have hFc := va_free (wc := [((h 0), .inr (11, [.ref (h 1), .ref (h 9), .int 0, .int 0, .ref (h 20), .ref (h 37), .int 0, .ref (h 38), .ref (h 42), .ref (h 43), .ref (h 44), .ref (h 45), .ref (h 46), .ref (h 47), .ref (h 48)])), ((h 1), .inr (8, [.ref (h 2), .int 0, .ref (h 3), .ref (h 4), .int 0, .ref (h 5), .int 0, .ref (h 6), .int 0, .ref (h 7), .int 0])), ((h 7), .inl ((cs 0), 4, .inr (.inr (.inr (.inr fn))))), ((h 8), .inr (0, [.ref (h 102), .ref (h 103), .int 0]))]) hD hS hA [0, 1, 2, 3] rfl
  refine vx_calli (vx_runV (As := [.int p0]) (rest := [.int 0, .ref o]) ⟨hx, hb, hml, hown, ht⟩ (k_X11_lines l hl0 _ D h cs p0 fn hn) (cwV 1 ht (zG_V zw_728 zw_729 zw_730 zw_404 zw_731) rfl rfl rfl (by decide +kernel) ⟨Nat.le_of_ble_eq_true rfl, Nat.le_of_ble_eq_true rfl⟩) (zW_V (va_recv hK hP (ci := 11) (q0 := 0) rfl rfl) hEx hS hFc hPc hKc hDc) rfl rfl hl.1 rfl (lv_room (Nat.le_of_ble_eq_true rfl)) dL_lines_4 ⟨Nat.le_of_ble_eq_true rfl, Nat.le_of_ble_eq_true rfl⟩) hS (fun q _ h => hFc q h) hFc (fun q _ h => hFc q h) (fun E ce q9 uu t H1 locs1 ht0 hvm hpx hB hz1 hk1 hS hcell hv hcl => ?_) (fun r_1 u_1 t H1 locs ht0 hvm hw_1 hB hz1 hk1 hS => ?_)
  · skip
    obtain ⟨rfl, hb9⟩ := hB
    obtain ⟨hP, hD⟩ := va_join (wr := [(o, .inl (cL, 1, .inr (.inl (fun _ => 0))))]) (w1 := []) hP hD [0, 1, 2, 3] [4] rfl rfl (by decide) (by decide) hk1 hFc zP_nil zD_nil
    refine vx_catch (name := "java/lang/IndexOutOfBoundsException") hown [] ⟨0, 9, 12, 21⟩ [] hTab ((fun _ h => nomatch h)) (by decide) (by decide) (ht _ zw_597) (va_Nw.use rfl (hEx.1.2.2.2.1 "java/lang/IndexOutOfBoundsException" (by decide))) hcell hv hcl ?_
    generalize H1 = H at hP hS ⊢
    have hP : va_P D vwCl [(o, .inl (cL, 1, .inr (.inl (fun _ => 0))))] H := hP
    have hD : va_D A [(o, .inl (cL, 1, .inr (.inl (fun _ => 0))))] := hD
    refine W.widen (k := 1) (n := 6) (Nat.le_of_ble_eq_true rfl) (Nat.le_of_ble_eq_true rfl) ?_
    refine lv_astore_n (lv' := [(3, .ref q9), (0, .ref (h 0)), (1, .int p0), (2, .ref o)]) hx hb dL_lines_12 rfl hl (by decide) rfl (fun ls hl => ?_)
    refine lv_iconst (v := 1) hx hb dL_lines_13 (by decide) ?_
    have hP9 := hP.sub (ws' := [(o, .inl (cL, 1, .inr (.inl (fun _ => 0))))]) [0] rfl
    have hD9 := hD.sub (ws' := [(o, .inl (cL, 1, .inr (.inl (fun _ => 0))))]) [0] (by decide) rfl
    have hK9 := hK.sub (tys' := []) [] rfl
    refine W.widen (k := 1) (n := 6) (Nat.le_of_ble_eq_true rfl) (Nat.le_of_ble_eq_true rfl) ?_
    exact W.iret (v := 1) hx hb hr (fun t ht0 hW => ⟨⟨1, 0, rfl, hb9, (fun _ => 0), rfl, zE_of hP9 hK9 hD9 ht0 hW⟩, hS.F ht0⟩) hS.2.2 dL_lines_14
  obtain ⟨hP1, hK1, hD1⟩ := hB
  rw [ht0] at hP1
  have hK1 := va_K.moved hvm.symm hK1
  obtain ⟨hP, hD⟩ := va_join (wr := [(o, .inl (cL, 1, .inr (.inl (fun _ => 0))))]) (w1 := []) hP hD [0, 1, 2, 3] [4] rfl rfl (by decide) (by decide) hk1 hFc hP1 hD1
  generalize H1 = H at hP hS ⊢
  have hP : va_P D vwCl [(o, .inl (cL, 1, .inr (.inl (fun _ => 0))))] H := hP
  have hD : va_D A [(o, .inl (cL, 1, .inr (.inl (fun _ => 0))))] := hD
  refine W.widen (k := 1) (n := 6) (Nat.le_of_ble_eq_true rfl) (Nat.le_of_ble_eq_true rfl) ?_
  refine lv_i2l (v := (r_1).toInt64) hx hb dL_lines_7 rfl ?_
  refine va_last hx hb hK hP hD hS 0 1 rfl rfl (vp_in_iff.mpr (by decide)) dL_lines_8 (fun H locs hP hD hS => ?_)
  have hP : va_P D vwCl [(o, .inl (cL, 1, .inr (.inl (vp_updL (fun _ => 0) 0 ((r_1).toInt64)))))] H := hP
  have hD : va_D A [(o, .inl (cL, 1, .inr (.inl (vp_updL (fun _ => 0) 0 ((r_1).toInt64)))))] := hD
  refine lv_goto (tgt := 15) hx hb dL_lines_9 (by decide) ?_
  refine lv_iconst (v := 0) hx hb dL_lines_15 (by decide) ?_
  have hP9 := hP.sub (ws' := [(o, .inl (cL, 1, .inr (.inl (vp_updL (fun _ => 0) 0 ((r_1).toInt64)))))]) [0] rfl
  have hD9 := hD.sub (ws' := [(o, .inl (cL, 1, .inr (.inl (vp_updL (fun _ => 0) 0 ((r_1).toInt64)))))]) [0] (by decide) rfl
  have hK9 := hK.sub (tys' := []) [] rfl
  refine W.widen (k := 1) (n := 6) (Nat.le_of_ble_eq_true rfl) (Nat.le_of_ble_eq_true rfl) ?_
  exact W.iret (v := 0) hx hb hr (fun t ht0 hW => ⟨⟨0, r_1, rfl, hw_1, (vp_updL (fun _ => 0) 0 ((r_1).toInt64)), (by simp [vp_updL]), zE_of hP9 hK9 hD9 ht0 hW⟩, hS.F ht0⟩) hS.2.2 dL_lines_16
set_option maxHeartbeats 4000000 in
set_option maxRecDepth 100000 in
theorem k_L_wrong (l : Launch) (hl0 : l.stackTraces = false) (sz : Nat) (D : va_G) (h cs : Nat → Nat) (p0 : Int32) (fn : Nat → Option Nat) (hn : ∀ k : Nat, k < 4 → fn k = some (h 8)) (o : Nat) (cL : ClassId) : Met l yL_wrong (.codeWith yL_wrong cL_wrong 4 (some .int) [(0, 9, 12, 21)] :: zT) ({ frames := 8, cells := 1, slots := 6, locals := 132 }) (va_Pc [.ref (h 0), .int p0, .ref o] (zY D [((h 0), .inr (11, [.ref (h 1), .ref (h 9), .int 0, .int 0, .ref (h 20), .ref (h 37), .int 0, .ref (h 38), .ref (h 42), .ref (h 43), .ref (h 44), .ref (h 45), .ref (h 46), .ref (h 47), .ref (h 48)])), ((h 1), .inr (8, [.ref (h 2), .int 0, .ref (h 3), .ref (h 4), .int 0, .ref (h 5), .int 0, .ref (h 6), .int 0, .ref (h 7), .int 0])), ((h 7), .inl ((cs 0), 4, .inr (.inr (.inr (.inr fn))))), ((h 8), .inr (0, [.ref (h 102), .ref (h 103), .int 0])), ((h 46), .inr (1, [.ref (h 84), .ref (h 85), .ref (h 86), .ref (h 87), .int 0, .int 0, .int (-1), .int 0, .int (-1), .int (-1), .int 0])), (o, .inl (cL, 1, .inr (.inl (fun _ => 0))))] [((cs 0), .object RX0), (cL, .long)] sz)) (va_Qi (fun (r u : Int32) => zS_wrong p0 r u) (fun u t => ∃ g2 : Nat → Int64, g2 0 = u.toInt64 ∧ zE D [(o, .inl (cL, 1, .inr (.inl g2)))] [] (va_A [((h 0), .inr (11, [.ref (h 1), .ref (h 9), .int 0, .int 0, .ref (h 20), .ref (h 37), .int 0, .ref (h 38), .ref (h 42), .ref (h 43), .ref (h 44), .ref (h 45), .ref (h 46), .ref (h 47), .ref (h 48)])), ((h 1), .inr (8, [.ref (h 2), .int 0, .ref (h 3), .ref (h 4), .int 0, .ref (h 5), .int 0, .ref (h 6), .int 0, .ref (h 7), .int 0])), ((h 7), .inl ((cs 0), 4, .inr (.inr (.inr (.inr fn))))), ((h 8), .inr (0, [.ref (h 102), .ref (h 103), .int 0])), ((h 46), .inr (1, [.ref (h 84), .ref (h 85), .ref (h 86), .ref (h 87), .int 0, .int 0, .int (-1), .int 0, .int (-1), .int (-1), .int 0])), (o, .inl (cL, 1, .inr (.inl (fun _ => 0))))] sz) t) (va_A [((h 0), .inr (11, [.ref (h 1), .ref (h 9), .int 0, .int 0, .ref (h 20), .ref (h 37), .int 0, .ref (h 38), .ref (h 42), .ref (h 43), .ref (h 44), .ref (h 45), .ref (h 46), .ref (h 47), .ref (h 48)])), ((h 1), .inr (8, [.ref (h 2), .int 0, .ref (h 3), .ref (h 4), .int 0, .ref (h 5), .int 0, .ref (h 6), .int 0, .ref (h 7), .int 0])), ((h 7), .inl ((cs 0), 4, .inr (.inr (.inr (.inr fn))))), ((h 8), .inr (0, [.ref (h 102), .ref (h 103), .int 0])), ((h 46), .inr (1, [.ref (h 84), .ref (h 85), .ref (h 86), .ref (h 87), .int 0, .int 0, .int (-1), .int 0, .int (-1), .int (-1), .int 0])), (o, .inl (cL, 1, .inr (.inl (fun _ => 0))))] sz)) 1 6 (va_A [((h 0), .inr (11, [.ref (h 1), .ref (h 9), .int 0, .int 0, .ref (h 20), .ref (h 37), .int 0, .ref (h 38), .ref (h 42), .ref (h 43), .ref (h 44), .ref (h 45), .ref (h 46), .ref (h 47), .ref (h 48)])), ((h 1), .inr (8, [.ref (h 2), .int 0, .ref (h 3), .ref (h 4), .int 0, .ref (h 5), .int 0, .ref (h 6), .int 0, .ref (h 7), .int 0])), ((h 7), .inl ((cs 0), 4, .inr (.inr (.inr (.inr fn))))), ((h 8), .inr (0, [.ref (h 102), .ref (h 103), .int 0])), ((h 46), .inr (1, [.ref (h 84), .ref (h 85), .ref (h 86), .ref (h 87), .int 0, .int 0, .int (-1), .int 0, .int (-1), .int (-1), .int 0])), (o, .inl (cL, 1, .inr (.inl (fun _ => 0))))] sz) := by
  refine zOfWH (cc := cL_wrong) (maxL := 4) (ret := (some .int)) (by decide) rfl ?_
  intro p e s m args below meth c s₁ B hml hv
  obtain ⟨rfl, hNc, hEx, hsz, hP, hK, hD0⟩ := hv
  have hx := B.exec
  have hb := B.bytes
  have hr := B.returns
  have hts := atoms_spec (ws := (.codeWith yL_wrong cL_wrong 4 (some .int) [(0, 9, 12, 21)] :: zT)) B.pre
  have ht : ∀ w ∈ zT, w.before _ s = true := fun w h => hts w (List.mem_cons_of_mem _ h)
  have hown : s.vm.findClass RL = some m.cls := findClass_of_methodNamed B.named
  have hlocks := B.notSynchronized
  have hTab := vx_table (x := yL_wrong) B (hts _ List.mem_cons_self)
  subst hsz
  have hD := hD0.self (sz := s.heap.size)
  generalize hAe : va_A [((h 0), .inr (11, [.ref (h 1), .ref (h 9), .int 0, .int 0, .ref (h 20), .ref (h 37), .int 0, .ref (h 38), .ref (h 42), .ref (h 43), .ref (h 44), .ref (h 45), .ref (h 46), .ref (h 47), .ref (h 48)])), ((h 1), .inr (8, [.ref (h 2), .int 0, .ref (h 3), .ref (h 4), .int 0, .ref (h 5), .int 0, .ref (h 6), .int 0, .ref (h 7), .int 0])), ((h 7), .inl ((cs 0), 4, .inr (.inr (.inr (.inr fn))))), ((h 8), .inr (0, [.ref (h 102), .ref (h 103), .int 0])), ((h 46), .inr (1, [.ref (h 84), .ref (h 85), .ref (h 86), .ref (h 87), .int 0, .int 0, .int (-1), .int 0, .int (-1), .int (-1), .int 0])), (o, .inl (cL, 1, .inr (.inl (fun _ => 0))))] s.heap.size = A at hD hEx ⊢
  have hA : ∀ q : Nat, s.heap.size ≤ q → A q := fun q h => by rw [← hAe]; exact Or.inr h
  have hS : va_S A s.heap s.heap [] := va_S.rf
  have hP : va_P D vwCl [((h 0), .inr (11, [.ref (h 1), .ref (h 9), .int 0, .int 0, .ref (h 20), .ref (h 37), .int 0, .ref (h 38), .ref (h 42), .ref (h 43), .ref (h 44), .ref (h 45), .ref (h 46), .ref (h 47), .ref (h 48)])), ((h 1), .inr (8, [.ref (h 2), .int 0, .ref (h 3), .ref (h 4), .int 0, .ref (h 5), .int 0, .ref (h 6), .int 0, .ref (h 7), .int 0])), ((h 7), .inl ((cs 0), 4, .inr (.inr (.inr (.inr fn))))), ((h 8), .inr (0, [.ref (h 102), .ref (h 103), .int 0])), ((h 46), .inr (1, [.ref (h 84), .ref (h 85), .ref (h 86), .ref (h 87), .int 0, .int 0, .int (-1), .int 0, .int (-1), .int (-1), .int 0])), (o, .inl (cL, 1, .inr (.inl (fun _ => 0))))] s.heap := hP
  have hl := lv_entry ([.ref (h 0), .int p0, .ref o]) (n := 4) (Nat.le_of_ble_eq_true rfl)
  rw [lg_entry_eq]
  generalize (lg_sl ([.ref (h 0), .int p0, .ref o]) ++ List.replicate (4 - (lg_sl ([.ref (h 0), .int p0, .ref o])).length) Slot.unset).toArray = ls at hl ⊢
  have hl : lv_has ls 4 [(0, .ref (h 0)), (1, .int p0), (2, .ref o)] := hl
  skip
  refine lv_aload_n hx hb dL_wrong_0 rfl (lv_at hl 2 rfl) ?_
  refine lv_iconst (v := 0) hx hb dL_wrong_1 (by decide) ?_
  refine lv_aload_n hx hb dL_wrong_2 rfl (lv_at hl 0 rfl) ?_
  refine lv_iload_n hx hb dL_wrong_3 rfl (lv_at hl 1 rfl) ?_
  have hPc := hP.sub (ws' := [((h 0), .inr (11, [.ref (h 1), .ref (h 9), .int 0, .int 0, .ref (h 20), .ref (h 37), .int 0, .ref (h 38), .ref (h 42), .ref (h 43), .ref (h 44), .ref (h 45), .ref (h 46), .ref (h 47), .ref (h 48)])), ((h 1), .inr (8, [.ref (h 2), .int 0, .ref (h 3), .ref (h 4), .int 0, .ref (h 5), .int 0, .ref (h 6), .int 0, .ref (h 7), .int 0])), ((h 7), .inl ((cs 0), 4, .inr (.inr (.inr (.inr fn))))), ((h 8), .inr (0, [.ref (h 102), .ref (h 103), .int 0])), ((h 46), .inr (1, [.ref (h 84), .ref (h 85), .ref (h 86), .ref (h 87), .int 0, .int 0, .int (-1), .int 0, .int (-1), .int (-1), .int 0]))]) [0, 1, 2, 3, 4] rfl
  have hDc := hD.sub (ws' := [((h 0), .inr (11, [.ref (h 1), .ref (h 9), .int 0, .int 0, .ref (h 20), .ref (h 37), .int 0, .ref (h 38), .ref (h 42), .ref (h 43), .ref (h 44), .ref (h 45), .ref (h 46), .ref (h 47), .ref (h 48)])), ((h 1), .inr (8, [.ref (h 2), .int 0, .ref (h 3), .ref (h 4), .int 0, .ref (h 5), .int 0, .ref (h 6), .int 0, .ref (h 7), .int 0])), ((h 7), .inl ((cs 0), 4, .inr (.inr (.inr (.inr fn))))), ((h 8), .inr (0, [.ref (h 102), .ref (h 103), .int 0])), ((h 46), .inr (1, [.ref (h 84), .ref (h 85), .ref (h 86), .ref (h 87), .int 0, .int 0, .int (-1), .int 0, .int (-1), .int (-1), .int 0]))]) [0, 1, 2, 3, 4] (by decide) rfl
  have hKc := hK.sub (tys' := [((cs 0), .object RX0)]) [0] rfl
  have hFc := va_free (wc := [((h 0), .inr (11, [.ref (h 1), .ref (h 9), .int 0, .int 0, .ref (h 20), .ref (h 37), .int 0, .ref (h 38), .ref (h 42), .ref (h 43), .ref (h 44), .ref (h 45), .ref (h 46), .ref (h 47), .ref (h 48)])), ((h 1), .inr (8, [.ref (h 2), .int 0, .ref (h 3), .ref (h 4), .int 0, .ref (h 5), .int 0, .ref (h 6), .int 0, .ref (h 7), .int 0])), ((h 7), .inl ((cs 0), 4, .inr (.inr (.inr (.inr fn))))), ((h 8), .inr (0, [.ref (h 102), .ref (h 103), .int 0])), ((h 46), .inr (1, [.ref (h 84), .ref (h 85), .ref (h 86), .ref (h 87), .int 0, .int 0, .int (-1), .int 0, .int (-1), .int (-1), .int 0]))]) hD hS hA [0, 1, 2, 3, 4] rfl
  refine vx_calli (vx_runV (As := [.int p0]) (rest := [.int 0, .ref o]) ⟨hx, hb, hml, hown, ht⟩ (k_X11_wrong l hl0 _ D h cs p0 fn hn) (cwV 1 ht (zG_V zw_732 zw_733 zw_734 zw_404 zw_735) rfl rfl rfl (by decide +kernel) ⟨Nat.le_of_ble_eq_true rfl, Nat.le_of_ble_eq_true rfl⟩) (zW_V (va_recv hK hP (ci := 11) (q0 := 0) rfl rfl) hEx hS hFc hPc hKc hDc) rfl rfl hl.1 rfl (lv_room (Nat.le_of_ble_eq_true rfl)) dL_wrong_4 ⟨Nat.le_of_ble_eq_true rfl, Nat.le_of_ble_eq_true rfl⟩) hS (fun q _ h => hFc q h) hFc (fun q _ h => hFc q h) (fun E ce q9 uu t H1 locs1 ht0 hvm hpx hB hz1 hk1 hS hcell hv hcl => ?_) (fun r_1 u_1 t H1 locs ht0 hvm hw_1 hB hz1 hk1 hS => ?_)
  · skip
    obtain ⟨rfl, hb9⟩ := hB
    obtain ⟨hP, hD⟩ := va_join (wr := [(o, .inl (cL, 1, .inr (.inl (fun _ => 0))))]) (w1 := []) hP hD [0, 1, 2, 3, 4] [5] rfl rfl (by decide) (by decide) hk1 hFc zP_nil zD_nil
    refine vx_catch (name := "java/lang/IndexOutOfBoundsException") hown [] ⟨0, 9, 12, 21⟩ [] hTab ((fun _ h => nomatch h)) (by decide) (by decide) (ht _ zw_597) (va_Nw.use rfl (hEx.1.2.2.2.1 "java/lang/IndexOutOfBoundsException" (by decide))) hcell hv hcl ?_
    generalize H1 = H at hP hS ⊢
    have hP : va_P D vwCl [(o, .inl (cL, 1, .inr (.inl (fun _ => 0))))] H := hP
    have hD : va_D A [(o, .inl (cL, 1, .inr (.inl (fun _ => 0))))] := hD
    refine W.widen (k := 1) (n := 6) (Nat.le_of_ble_eq_true rfl) (Nat.le_of_ble_eq_true rfl) ?_
    refine lv_astore_n (lv' := [(3, .ref q9), (0, .ref (h 0)), (1, .int p0), (2, .ref o)]) hx hb dL_wrong_12 rfl hl (by decide) rfl (fun ls hl => ?_)
    refine lv_iconst (v := 1) hx hb dL_wrong_13 (by decide) ?_
    have hP9 := hP.sub (ws' := [(o, .inl (cL, 1, .inr (.inl (fun _ => 0))))]) [0] rfl
    have hD9 := hD.sub (ws' := [(o, .inl (cL, 1, .inr (.inl (fun _ => 0))))]) [0] (by decide) rfl
    have hK9 := hK.sub (tys' := []) [] rfl
    refine W.widen (k := 1) (n := 6) (Nat.le_of_ble_eq_true rfl) (Nat.le_of_ble_eq_true rfl) ?_
    exact W.iret (v := 1) hx hb hr (fun t ht0 hW => ⟨⟨1, 0, rfl, hb9, (fun _ => 0), rfl, zE_of hP9 hK9 hD9 ht0 hW⟩, hS.F ht0⟩) hS.2.2 dL_wrong_14
  obtain ⟨hP1, hK1, hD1⟩ := hB
  rw [ht0] at hP1
  have hK1 := va_K.moved hvm.symm hK1
  obtain ⟨hP, hD⟩ := va_join (wr := [(o, .inl (cL, 1, .inr (.inl (fun _ => 0))))]) (w1 := []) hP hD [0, 1, 2, 3, 4] [5] rfl rfl (by decide) (by decide) hk1 hFc hP1 hD1
  generalize H1 = H at hP hS ⊢
  have hP : va_P D vwCl [(o, .inl (cL, 1, .inr (.inl (fun _ => 0))))] H := hP
  have hD : va_D A [(o, .inl (cL, 1, .inr (.inl (fun _ => 0))))] := hD
  refine W.widen (k := 1) (n := 6) (Nat.le_of_ble_eq_true rfl) (Nat.le_of_ble_eq_true rfl) ?_
  refine lv_i2l (v := (r_1).toInt64) hx hb dL_wrong_7 rfl ?_
  refine va_last hx hb hK hP hD hS 0 1 rfl rfl (vp_in_iff.mpr (by decide)) dL_wrong_8 (fun H locs hP hD hS => ?_)
  have hP : va_P D vwCl [(o, .inl (cL, 1, .inr (.inl (vp_updL (fun _ => 0) 0 ((r_1).toInt64)))))] H := hP
  have hD : va_D A [(o, .inl (cL, 1, .inr (.inl (vp_updL (fun _ => 0) 0 ((r_1).toInt64)))))] := hD
  refine lv_goto (tgt := 15) hx hb dL_wrong_9 (by decide) ?_
  refine lv_iconst (v := 0) hx hb dL_wrong_15 (by decide) ?_
  have hP9 := hP.sub (ws' := [(o, .inl (cL, 1, .inr (.inl (vp_updL (fun _ => 0) 0 ((r_1).toInt64)))))]) [0] rfl
  have hD9 := hD.sub (ws' := [(o, .inl (cL, 1, .inr (.inl (vp_updL (fun _ => 0) 0 ((r_1).toInt64)))))]) [0] (by decide) rfl
  have hK9 := hK.sub (tys' := []) [] rfl
  refine W.widen (k := 1) (n := 6) (Nat.le_of_ble_eq_true rfl) (Nat.le_of_ble_eq_true rfl) ?_
  exact W.iret (v := 0) hx hb hr (fun t ht0 hW => ⟨⟨0, r_1, rfl, hw_1, (vp_updL (fun _ => 0) 0 ((r_1).toInt64)), (by simp [vp_updL]), zE_of hP9 hK9 hD9 ht0 hW⟩, hS.F ht0⟩) hS.2.2 dL_wrong_16
set_option maxHeartbeats 4000000 in
set_option maxRecDepth 100000 in
theorem k_L_relation (l : Launch) (hl0 : l.stackTraces = false) (sz : Nat) (D : va_G) (h cs : Nat → Nat) (p0 : Int32) (fn : Nat → Option Nat) (hn : ∀ k : Nat, k < 4 → fn k = some (h 8)) (o : Nat) (cL : ClassId) : Met l yL_relation (.codeWith yL_relation cL_relation 4 (some .int) [(0, 9, 12, 21)] :: zT) ({ frames := 8, cells := 1, slots := 6, locals := 132 }) (va_Pc [.ref (h 0), .int p0, .ref o] (zY D [((h 0), .inr (11, [.ref (h 1), .ref (h 9), .int 0, .int 0, .ref (h 20), .ref (h 37), .int 0, .ref (h 38), .ref (h 42), .ref (h 43), .ref (h 44), .ref (h 45), .ref (h 46), .ref (h 47), .ref (h 48)])), ((h 1), .inr (8, [.ref (h 2), .int 0, .ref (h 3), .ref (h 4), .int 0, .ref (h 5), .int 0, .ref (h 6), .int 0, .ref (h 7), .int 0])), ((h 7), .inl ((cs 0), 4, .inr (.inr (.inr (.inr fn))))), ((h 8), .inr (0, [.ref (h 102), .ref (h 103), .int 0])), ((h 46), .inr (1, [.ref (h 84), .ref (h 85), .ref (h 86), .ref (h 87), .int 0, .int 0, .int (-1), .int 0, .int (-1), .int (-1), .int 0])), (o, .inl (cL, 1, .inr (.inl (fun _ => 0))))] [((cs 0), .object RX0), (cL, .long)] sz)) (va_Qi (fun (r u : Int32) => zS_relation p0 r u) (fun u t => ∃ g2 : Nat → Int64, g2 0 = u.toInt64 ∧ zE D [(o, .inl (cL, 1, .inr (.inl g2)))] [] (va_A [((h 0), .inr (11, [.ref (h 1), .ref (h 9), .int 0, .int 0, .ref (h 20), .ref (h 37), .int 0, .ref (h 38), .ref (h 42), .ref (h 43), .ref (h 44), .ref (h 45), .ref (h 46), .ref (h 47), .ref (h 48)])), ((h 1), .inr (8, [.ref (h 2), .int 0, .ref (h 3), .ref (h 4), .int 0, .ref (h 5), .int 0, .ref (h 6), .int 0, .ref (h 7), .int 0])), ((h 7), .inl ((cs 0), 4, .inr (.inr (.inr (.inr fn))))), ((h 8), .inr (0, [.ref (h 102), .ref (h 103), .int 0])), ((h 46), .inr (1, [.ref (h 84), .ref (h 85), .ref (h 86), .ref (h 87), .int 0, .int 0, .int (-1), .int 0, .int (-1), .int (-1), .int 0])), (o, .inl (cL, 1, .inr (.inl (fun _ => 0))))] sz) t) (va_A [((h 0), .inr (11, [.ref (h 1), .ref (h 9), .int 0, .int 0, .ref (h 20), .ref (h 37), .int 0, .ref (h 38), .ref (h 42), .ref (h 43), .ref (h 44), .ref (h 45), .ref (h 46), .ref (h 47), .ref (h 48)])), ((h 1), .inr (8, [.ref (h 2), .int 0, .ref (h 3), .ref (h 4), .int 0, .ref (h 5), .int 0, .ref (h 6), .int 0, .ref (h 7), .int 0])), ((h 7), .inl ((cs 0), 4, .inr (.inr (.inr (.inr fn))))), ((h 8), .inr (0, [.ref (h 102), .ref (h 103), .int 0])), ((h 46), .inr (1, [.ref (h 84), .ref (h 85), .ref (h 86), .ref (h 87), .int 0, .int 0, .int (-1), .int 0, .int (-1), .int (-1), .int 0])), (o, .inl (cL, 1, .inr (.inl (fun _ => 0))))] sz)) 1 6 (va_A [((h 0), .inr (11, [.ref (h 1), .ref (h 9), .int 0, .int 0, .ref (h 20), .ref (h 37), .int 0, .ref (h 38), .ref (h 42), .ref (h 43), .ref (h 44), .ref (h 45), .ref (h 46), .ref (h 47), .ref (h 48)])), ((h 1), .inr (8, [.ref (h 2), .int 0, .ref (h 3), .ref (h 4), .int 0, .ref (h 5), .int 0, .ref (h 6), .int 0, .ref (h 7), .int 0])), ((h 7), .inl ((cs 0), 4, .inr (.inr (.inr (.inr fn))))), ((h 8), .inr (0, [.ref (h 102), .ref (h 103), .int 0])), ((h 46), .inr (1, [.ref (h 84), .ref (h 85), .ref (h 86), .ref (h 87), .int 0, .int 0, .int (-1), .int 0, .int (-1), .int (-1), .int 0])), (o, .inl (cL, 1, .inr (.inl (fun _ => 0))))] sz) := by
  refine zOfWH (cc := cL_relation) (maxL := 4) (ret := (some .int)) (by decide) rfl ?_
  intro p e s m args below meth c s₁ B hml hv
  obtain ⟨rfl, hNc, hEx, hsz, hP, hK, hD0⟩ := hv
  have hx := B.exec
  have hb := B.bytes
  have hr := B.returns
  have hts := atoms_spec (ws := (.codeWith yL_relation cL_relation 4 (some .int) [(0, 9, 12, 21)] :: zT)) B.pre
  have ht : ∀ w ∈ zT, w.before _ s = true := fun w h => hts w (List.mem_cons_of_mem _ h)
  have hown : s.vm.findClass RL = some m.cls := findClass_of_methodNamed B.named
  have hlocks := B.notSynchronized
  have hTab := vx_table (x := yL_relation) B (hts _ List.mem_cons_self)
  subst hsz
  have hD := hD0.self (sz := s.heap.size)
  generalize hAe : va_A [((h 0), .inr (11, [.ref (h 1), .ref (h 9), .int 0, .int 0, .ref (h 20), .ref (h 37), .int 0, .ref (h 38), .ref (h 42), .ref (h 43), .ref (h 44), .ref (h 45), .ref (h 46), .ref (h 47), .ref (h 48)])), ((h 1), .inr (8, [.ref (h 2), .int 0, .ref (h 3), .ref (h 4), .int 0, .ref (h 5), .int 0, .ref (h 6), .int 0, .ref (h 7), .int 0])), ((h 7), .inl ((cs 0), 4, .inr (.inr (.inr (.inr fn))))), ((h 8), .inr (0, [.ref (h 102), .ref (h 103), .int 0])), ((h 46), .inr (1, [.ref (h 84), .ref (h 85), .ref (h 86), .ref (h 87), .int 0, .int 0, .int (-1), .int 0, .int (-1), .int (-1), .int 0])), (o, .inl (cL, 1, .inr (.inl (fun _ => 0))))] s.heap.size = A at hD hEx ⊢
  have hA : ∀ q : Nat, s.heap.size ≤ q → A q := fun q h => by rw [← hAe]; exact Or.inr h
  have hS : va_S A s.heap s.heap [] := va_S.rf
  have hP : va_P D vwCl [((h 0), .inr (11, [.ref (h 1), .ref (h 9), .int 0, .int 0, .ref (h 20), .ref (h 37), .int 0, .ref (h 38), .ref (h 42), .ref (h 43), .ref (h 44), .ref (h 45), .ref (h 46), .ref (h 47), .ref (h 48)])), ((h 1), .inr (8, [.ref (h 2), .int 0, .ref (h 3), .ref (h 4), .int 0, .ref (h 5), .int 0, .ref (h 6), .int 0, .ref (h 7), .int 0])), ((h 7), .inl ((cs 0), 4, .inr (.inr (.inr (.inr fn))))), ((h 8), .inr (0, [.ref (h 102), .ref (h 103), .int 0])), ((h 46), .inr (1, [.ref (h 84), .ref (h 85), .ref (h 86), .ref (h 87), .int 0, .int 0, .int (-1), .int 0, .int (-1), .int (-1), .int 0])), (o, .inl (cL, 1, .inr (.inl (fun _ => 0))))] s.heap := hP
  have hl := lv_entry ([.ref (h 0), .int p0, .ref o]) (n := 4) (Nat.le_of_ble_eq_true rfl)
  rw [lg_entry_eq]
  generalize (lg_sl ([.ref (h 0), .int p0, .ref o]) ++ List.replicate (4 - (lg_sl ([.ref (h 0), .int p0, .ref o])).length) Slot.unset).toArray = ls at hl ⊢
  have hl : lv_has ls 4 [(0, .ref (h 0)), (1, .int p0), (2, .ref o)] := hl
  skip
  refine lv_aload_n hx hb dL_relation_0 rfl (lv_at hl 2 rfl) ?_
  refine lv_iconst (v := 0) hx hb dL_relation_1 (by decide) ?_
  refine lv_aload_n hx hb dL_relation_2 rfl (lv_at hl 0 rfl) ?_
  refine lv_iload_n hx hb dL_relation_3 rfl (lv_at hl 1 rfl) ?_
  have hPc := hP.sub (ws' := [((h 0), .inr (11, [.ref (h 1), .ref (h 9), .int 0, .int 0, .ref (h 20), .ref (h 37), .int 0, .ref (h 38), .ref (h 42), .ref (h 43), .ref (h 44), .ref (h 45), .ref (h 46), .ref (h 47), .ref (h 48)])), ((h 1), .inr (8, [.ref (h 2), .int 0, .ref (h 3), .ref (h 4), .int 0, .ref (h 5), .int 0, .ref (h 6), .int 0, .ref (h 7), .int 0])), ((h 7), .inl ((cs 0), 4, .inr (.inr (.inr (.inr fn))))), ((h 8), .inr (0, [.ref (h 102), .ref (h 103), .int 0])), ((h 46), .inr (1, [.ref (h 84), .ref (h 85), .ref (h 86), .ref (h 87), .int 0, .int 0, .int (-1), .int 0, .int (-1), .int (-1), .int 0]))]) [0, 1, 2, 3, 4] rfl
  have hDc := hD.sub (ws' := [((h 0), .inr (11, [.ref (h 1), .ref (h 9), .int 0, .int 0, .ref (h 20), .ref (h 37), .int 0, .ref (h 38), .ref (h 42), .ref (h 43), .ref (h 44), .ref (h 45), .ref (h 46), .ref (h 47), .ref (h 48)])), ((h 1), .inr (8, [.ref (h 2), .int 0, .ref (h 3), .ref (h 4), .int 0, .ref (h 5), .int 0, .ref (h 6), .int 0, .ref (h 7), .int 0])), ((h 7), .inl ((cs 0), 4, .inr (.inr (.inr (.inr fn))))), ((h 8), .inr (0, [.ref (h 102), .ref (h 103), .int 0])), ((h 46), .inr (1, [.ref (h 84), .ref (h 85), .ref (h 86), .ref (h 87), .int 0, .int 0, .int (-1), .int 0, .int (-1), .int (-1), .int 0]))]) [0, 1, 2, 3, 4] (by decide) rfl
  have hKc := hK.sub (tys' := [((cs 0), .object RX0)]) [0] rfl
  have hFc := va_free (wc := [((h 0), .inr (11, [.ref (h 1), .ref (h 9), .int 0, .int 0, .ref (h 20), .ref (h 37), .int 0, .ref (h 38), .ref (h 42), .ref (h 43), .ref (h 44), .ref (h 45), .ref (h 46), .ref (h 47), .ref (h 48)])), ((h 1), .inr (8, [.ref (h 2), .int 0, .ref (h 3), .ref (h 4), .int 0, .ref (h 5), .int 0, .ref (h 6), .int 0, .ref (h 7), .int 0])), ((h 7), .inl ((cs 0), 4, .inr (.inr (.inr (.inr fn))))), ((h 8), .inr (0, [.ref (h 102), .ref (h 103), .int 0])), ((h 46), .inr (1, [.ref (h 84), .ref (h 85), .ref (h 86), .ref (h 87), .int 0, .int 0, .int (-1), .int 0, .int (-1), .int (-1), .int 0]))]) hD hS hA [0, 1, 2, 3, 4] rfl
  refine vx_calli (vx_runV (As := [.int p0]) (rest := [.int 0, .ref o]) ⟨hx, hb, hml, hown, ht⟩ (k_X11_relation l hl0 _ D h cs p0 fn hn) (cwV 1 ht (zG_V zw_736 zw_737 zw_738 zw_404 zw_739) rfl rfl rfl (by decide +kernel) ⟨Nat.le_of_ble_eq_true rfl, Nat.le_of_ble_eq_true rfl⟩) (zW_V (va_recv hK hP (ci := 11) (q0 := 0) rfl rfl) hEx hS hFc hPc hKc hDc) rfl rfl hl.1 rfl (lv_room (Nat.le_of_ble_eq_true rfl)) dL_relation_4 ⟨Nat.le_of_ble_eq_true rfl, Nat.le_of_ble_eq_true rfl⟩) hS (fun q _ h => hFc q h) hFc (fun q _ h => hFc q h) (fun E ce q9 uu t H1 locs1 ht0 hvm hpx hB hz1 hk1 hS hcell hv hcl => ?_) (fun r_1 u_1 t H1 locs ht0 hvm hw_1 hB hz1 hk1 hS => ?_)
  · skip
    obtain ⟨rfl, hb9⟩ := hB
    obtain ⟨hP, hD⟩ := va_join (wr := [(o, .inl (cL, 1, .inr (.inl (fun _ => 0))))]) (w1 := []) hP hD [0, 1, 2, 3, 4] [5] rfl rfl (by decide) (by decide) hk1 hFc zP_nil zD_nil
    refine vx_catch (name := "java/lang/IndexOutOfBoundsException") hown [] ⟨0, 9, 12, 21⟩ [] hTab ((fun _ h => nomatch h)) (by decide) (by decide) (ht _ zw_597) (va_Nw.use rfl (hEx.1.2.2.2.1 "java/lang/IndexOutOfBoundsException" (by decide))) hcell hv hcl ?_
    generalize H1 = H at hP hS ⊢
    have hP : va_P D vwCl [(o, .inl (cL, 1, .inr (.inl (fun _ => 0))))] H := hP
    have hD : va_D A [(o, .inl (cL, 1, .inr (.inl (fun _ => 0))))] := hD
    refine W.widen (k := 1) (n := 6) (Nat.le_of_ble_eq_true rfl) (Nat.le_of_ble_eq_true rfl) ?_
    refine lv_astore_n (lv' := [(3, .ref q9), (0, .ref (h 0)), (1, .int p0), (2, .ref o)]) hx hb dL_relation_12 rfl hl (by decide) rfl (fun ls hl => ?_)
    refine lv_iconst (v := 1) hx hb dL_relation_13 (by decide) ?_
    have hP9 := hP.sub (ws' := [(o, .inl (cL, 1, .inr (.inl (fun _ => 0))))]) [0] rfl
    have hD9 := hD.sub (ws' := [(o, .inl (cL, 1, .inr (.inl (fun _ => 0))))]) [0] (by decide) rfl
    have hK9 := hK.sub (tys' := []) [] rfl
    refine W.widen (k := 1) (n := 6) (Nat.le_of_ble_eq_true rfl) (Nat.le_of_ble_eq_true rfl) ?_
    exact W.iret (v := 1) hx hb hr (fun t ht0 hW => ⟨⟨1, 0, rfl, hb9, (fun _ => 0), rfl, zE_of hP9 hK9 hD9 ht0 hW⟩, hS.F ht0⟩) hS.2.2 dL_relation_14
  obtain ⟨hP1, hK1, hD1⟩ := hB
  rw [ht0] at hP1
  have hK1 := va_K.moved hvm.symm hK1
  obtain ⟨hP, hD⟩ := va_join (wr := [(o, .inl (cL, 1, .inr (.inl (fun _ => 0))))]) (w1 := []) hP hD [0, 1, 2, 3, 4] [5] rfl rfl (by decide) (by decide) hk1 hFc hP1 hD1
  generalize H1 = H at hP hS ⊢
  have hP : va_P D vwCl [(o, .inl (cL, 1, .inr (.inl (fun _ => 0))))] H := hP
  have hD : va_D A [(o, .inl (cL, 1, .inr (.inl (fun _ => 0))))] := hD
  refine W.widen (k := 1) (n := 6) (Nat.le_of_ble_eq_true rfl) (Nat.le_of_ble_eq_true rfl) ?_
  refine lv_i2l (v := (r_1).toInt64) hx hb dL_relation_7 rfl ?_
  refine va_last hx hb hK hP hD hS 0 1 rfl rfl (vp_in_iff.mpr (by decide)) dL_relation_8 (fun H locs hP hD hS => ?_)
  have hP : va_P D vwCl [(o, .inl (cL, 1, .inr (.inl (vp_updL (fun _ => 0) 0 ((r_1).toInt64)))))] H := hP
  have hD : va_D A [(o, .inl (cL, 1, .inr (.inl (vp_updL (fun _ => 0) 0 ((r_1).toInt64)))))] := hD
  refine lv_goto (tgt := 15) hx hb dL_relation_9 (by decide) ?_
  refine lv_iconst (v := 0) hx hb dL_relation_15 (by decide) ?_
  have hP9 := hP.sub (ws' := [(o, .inl (cL, 1, .inr (.inl (vp_updL (fun _ => 0) 0 ((r_1).toInt64)))))]) [0] rfl
  have hD9 := hD.sub (ws' := [(o, .inl (cL, 1, .inr (.inl (vp_updL (fun _ => 0) 0 ((r_1).toInt64)))))]) [0] (by decide) rfl
  have hK9 := hK.sub (tys' := []) [] rfl
  refine W.widen (k := 1) (n := 6) (Nat.le_of_ble_eq_true rfl) (Nat.le_of_ble_eq_true rfl) ?_
  exact W.iret (v := 0) hx hb hr (fun t ht0 hW => ⟨⟨0, r_1, rfl, hw_1, (vp_updL (fun _ => 0) 0 ((r_1).toInt64)), (by simp [vp_updL]), zE_of hP9 hK9 hD9 ht0 hW⟩, hS.F ht0⟩) hS.2.2 dL_relation_16
set_option maxHeartbeats 4000000 in
set_option maxRecDepth 100000 in
theorem k_L_stepAt (l : Launch) (hl0 : l.stackTraces = false) (sz : Nat) (D : va_G) (h cs : Nat → Nat) (p0 p1 p2 : Int32) (fn : Nat → Option Nat) (hn : ∀ k : Nat, k < 4 → fn k = some (h 8)) (o : Nat) (cL : ClassId) : Met l yL_stepAt (.codeWith yL_stepAt cL_stepAt 6 (some .int) [(0, 12, 15, 21), (0, 12, 19, 13)] :: zT) ({ frames := 8, cells := 2, slots := 12, locals := 136 }) (va_Pc [.ref (h 0), .int p0, .int p1, .int p2, .ref o] (zY D [((h 0), .inr (11, [.ref (h 1), .ref (h 9), .int 0, .int 0, .ref (h 20), .ref (h 37), .int 0, .ref (h 38), .ref (h 42), .ref (h 43), .ref (h 44), .ref (h 45), .ref (h 46), .ref (h 47), .ref (h 48)])), ((h 1), .inr (8, [.ref (h 2), .int 0, .ref (h 3), .ref (h 4), .int 0, .ref (h 5), .int 0, .ref (h 6), .int 0, .ref (h 7), .int 0])), ((h 7), .inl ((cs 0), 4, .inr (.inr (.inr (.inr fn))))), ((h 8), .inr (0, [.ref (h 102), .ref (h 103), .int 0])), (o, .inl (cL, 1, .inr (.inl (fun _ => 0))))] [((cs 0), .object RX0), (cL, .long)] sz)) (va_Qi (fun (r u : Int32) => zS_stepAt p0 p1 p2 r u) (fun u t => ∃ g2 : Nat → Int64, g2 0 = u.toInt64 ∧ zE D [(o, .inl (cL, 1, .inr (.inl g2)))] [] (va_A [((h 0), .inr (11, [.ref (h 1), .ref (h 9), .int 0, .int 0, .ref (h 20), .ref (h 37), .int 0, .ref (h 38), .ref (h 42), .ref (h 43), .ref (h 44), .ref (h 45), .ref (h 46), .ref (h 47), .ref (h 48)])), ((h 1), .inr (8, [.ref (h 2), .int 0, .ref (h 3), .ref (h 4), .int 0, .ref (h 5), .int 0, .ref (h 6), .int 0, .ref (h 7), .int 0])), ((h 7), .inl ((cs 0), 4, .inr (.inr (.inr (.inr fn))))), ((h 8), .inr (0, [.ref (h 102), .ref (h 103), .int 0])), (o, .inl (cL, 1, .inr (.inl (fun _ => 0))))] sz) t) (va_A [((h 0), .inr (11, [.ref (h 1), .ref (h 9), .int 0, .int 0, .ref (h 20), .ref (h 37), .int 0, .ref (h 38), .ref (h 42), .ref (h 43), .ref (h 44), .ref (h 45), .ref (h 46), .ref (h 47), .ref (h 48)])), ((h 1), .inr (8, [.ref (h 2), .int 0, .ref (h 3), .ref (h 4), .int 0, .ref (h 5), .int 0, .ref (h 6), .int 0, .ref (h 7), .int 0])), ((h 7), .inl ((cs 0), 4, .inr (.inr (.inr (.inr fn))))), ((h 8), .inr (0, [.ref (h 102), .ref (h 103), .int 0])), (o, .inl (cL, 1, .inr (.inl (fun _ => 0))))] sz)) 2 12 (va_A [((h 0), .inr (11, [.ref (h 1), .ref (h 9), .int 0, .int 0, .ref (h 20), .ref (h 37), .int 0, .ref (h 38), .ref (h 42), .ref (h 43), .ref (h 44), .ref (h 45), .ref (h 46), .ref (h 47), .ref (h 48)])), ((h 1), .inr (8, [.ref (h 2), .int 0, .ref (h 3), .ref (h 4), .int 0, .ref (h 5), .int 0, .ref (h 6), .int 0, .ref (h 7), .int 0])), ((h 7), .inl ((cs 0), 4, .inr (.inr (.inr (.inr fn))))), ((h 8), .inr (0, [.ref (h 102), .ref (h 103), .int 0])), (o, .inl (cL, 1, .inr (.inl (fun _ => 0))))] sz) := by
  refine zOfWH (cc := cL_stepAt) (maxL := 6) (ret := (some .int)) (by decide) rfl ?_
  intro p e s m args below meth c s₁ B hml hv
  obtain ⟨rfl, hNc, hEx, hsz, hP, hK, hD0⟩ := hv
  have hx := B.exec
  have hb := B.bytes
  have hr := B.returns
  have hts := atoms_spec (ws := (.codeWith yL_stepAt cL_stepAt 6 (some .int) [(0, 12, 15, 21), (0, 12, 19, 13)] :: zT)) B.pre
  have ht : ∀ w ∈ zT, w.before _ s = true := fun w h => hts w (List.mem_cons_of_mem _ h)
  have hown : s.vm.findClass RL = some m.cls := findClass_of_methodNamed B.named
  have hlocks := B.notSynchronized
  have hTab := vx_table (x := yL_stepAt) B (hts _ List.mem_cons_self)
  subst hsz
  have hD := hD0.self (sz := s.heap.size)
  generalize hAe : va_A [((h 0), .inr (11, [.ref (h 1), .ref (h 9), .int 0, .int 0, .ref (h 20), .ref (h 37), .int 0, .ref (h 38), .ref (h 42), .ref (h 43), .ref (h 44), .ref (h 45), .ref (h 46), .ref (h 47), .ref (h 48)])), ((h 1), .inr (8, [.ref (h 2), .int 0, .ref (h 3), .ref (h 4), .int 0, .ref (h 5), .int 0, .ref (h 6), .int 0, .ref (h 7), .int 0])), ((h 7), .inl ((cs 0), 4, .inr (.inr (.inr (.inr fn))))), ((h 8), .inr (0, [.ref (h 102), .ref (h 103), .int 0])), (o, .inl (cL, 1, .inr (.inl (fun _ => 0))))] s.heap.size = A at hD hEx ⊢
  have hA : ∀ q : Nat, s.heap.size ≤ q → A q := fun q h => by rw [← hAe]; exact Or.inr h
  have hS : va_S A s.heap s.heap [] := va_S.rf
  have hP : va_P D vwCl [((h 0), .inr (11, [.ref (h 1), .ref (h 9), .int 0, .int 0, .ref (h 20), .ref (h 37), .int 0, .ref (h 38), .ref (h 42), .ref (h 43), .ref (h 44), .ref (h 45), .ref (h 46), .ref (h 47), .ref (h 48)])), ((h 1), .inr (8, [.ref (h 2), .int 0, .ref (h 3), .ref (h 4), .int 0, .ref (h 5), .int 0, .ref (h 6), .int 0, .ref (h 7), .int 0])), ((h 7), .inl ((cs 0), 4, .inr (.inr (.inr (.inr fn))))), ((h 8), .inr (0, [.ref (h 102), .ref (h 103), .int 0])), (o, .inl (cL, 1, .inr (.inl (fun _ => 0))))] s.heap := hP
  have hl := lv_entry ([.ref (h 0), .int p0, .int p1, .int p2, .ref o]) (n := 6) (Nat.le_of_ble_eq_true rfl)
  rw [lg_entry_eq]
  generalize (lg_sl ([.ref (h 0), .int p0, .int p1, .int p2, .ref o]) ++ List.replicate (6 - (lg_sl ([.ref (h 0), .int p0, .int p1, .int p2, .ref o])).length) Slot.unset).toArray = ls at hl ⊢
  have hl : lv_has ls 6 [(0, .ref (h 0)), (1, .int p0), (2, .int p1), (3, .int p2), (4, .ref o)] := hl
  skip
  refine lv_aload hx hb dL_stepAt_0 (lv_at hl 4 rfl) ?_
  refine lv_iconst (v := 0) hx hb dL_stepAt_2 (by decide) ?_
  refine lv_aload_n hx hb dL_stepAt_3 rfl (lv_at hl 0 rfl) ?_
  refine lv_iload_n hx hb dL_stepAt_4 rfl (lv_at hl 1 rfl) ?_
  refine lv_iload_n hx hb dL_stepAt_5 rfl (lv_at hl 2 rfl) ?_
  refine lv_iload_n hx hb dL_stepAt_6 rfl (lv_at hl 3 rfl) ?_
  have hPc := hP.sub (ws' := [((h 0), .inr (11, [.ref (h 1), .ref (h 9), .int 0, .int 0, .ref (h 20), .ref (h 37), .int 0, .ref (h 38), .ref (h 42), .ref (h 43), .ref (h 44), .ref (h 45), .ref (h 46), .ref (h 47), .ref (h 48)])), ((h 1), .inr (8, [.ref (h 2), .int 0, .ref (h 3), .ref (h 4), .int 0, .ref (h 5), .int 0, .ref (h 6), .int 0, .ref (h 7), .int 0])), ((h 7), .inl ((cs 0), 4, .inr (.inr (.inr (.inr fn))))), ((h 8), .inr (0, [.ref (h 102), .ref (h 103), .int 0]))]) [0, 1, 2, 3] rfl
  have hDc := hD.sub (ws' := [((h 0), .inr (11, [.ref (h 1), .ref (h 9), .int 0, .int 0, .ref (h 20), .ref (h 37), .int 0, .ref (h 38), .ref (h 42), .ref (h 43), .ref (h 44), .ref (h 45), .ref (h 46), .ref (h 47), .ref (h 48)])), ((h 1), .inr (8, [.ref (h 2), .int 0, .ref (h 3), .ref (h 4), .int 0, .ref (h 5), .int 0, .ref (h 6), .int 0, .ref (h 7), .int 0])), ((h 7), .inl ((cs 0), 4, .inr (.inr (.inr (.inr fn))))), ((h 8), .inr (0, [.ref (h 102), .ref (h 103), .int 0]))]) [0, 1, 2, 3] (by decide) rfl
  have hKc := hK.sub (tys' := [((cs 0), .object RX0)]) [0] rfl
  have hFc := va_free (wc := [((h 0), .inr (11, [.ref (h 1), .ref (h 9), .int 0, .int 0, .ref (h 20), .ref (h 37), .int 0, .ref (h 38), .ref (h 42), .ref (h 43), .ref (h 44), .ref (h 45), .ref (h 46), .ref (h 47), .ref (h 48)])), ((h 1), .inr (8, [.ref (h 2), .int 0, .ref (h 3), .ref (h 4), .int 0, .ref (h 5), .int 0, .ref (h 6), .int 0, .ref (h 7), .int 0])), ((h 7), .inl ((cs 0), 4, .inr (.inr (.inr (.inr fn))))), ((h 8), .inr (0, [.ref (h 102), .ref (h 103), .int 0]))]) hD hS hA [0, 1, 2, 3] rfl
  refine vx_calli (vx_runV (As := [.int p0, .int p1, .int p2]) (rest := [.int 0, .ref o]) ⟨hx, hb, hml, hown, ht⟩ (k_X11_stepAt l hl0 _ D h cs p0 p1 p2 fn hn) (cwV 3 ht (zG_V zw_740 zw_741 zw_742 zw_404 zw_743) rfl rfl rfl (by decide +kernel) ⟨Nat.le_of_ble_eq_true rfl, Nat.le_of_ble_eq_true rfl⟩) (zW_V (va_recv hK hP (ci := 11) (q0 := 0) rfl rfl) hEx hS hFc hPc hKc hDc) rfl rfl hl.1 rfl (lv_room (Nat.le_of_ble_eq_true rfl)) dL_stepAt_7 ⟨Nat.le_of_ble_eq_true rfl, Nat.le_of_ble_eq_true rfl⟩) hS (fun q _ h => hFc q h) hFc (fun q _ h => hFc q h) (fun E ce q9 uu t H1 locs1 ht0 hvm hpx hB hz1 hk1 hS hcell hv hcl => ?_) (fun r_1 u_1 t H1 locs ht0 hvm hw_1 hB hz1 hk1 hS => ?_)
  · skip
    obtain ⟨rfl, hb9⟩ := hB
    obtain ⟨hP, hD⟩ := va_join (wr := [(o, .inl (cL, 1, .inr (.inl (fun _ => 0))))]) (w1 := []) hP hD [0, 1, 2, 3] [4] rfl rfl (by decide) (by decide) hk1 hFc zP_nil zD_nil
    refine vx_catch (name := "java/lang/IndexOutOfBoundsException") hown [] ⟨0, 12, 15, 21⟩ [⟨0, 12, 19, 13⟩] hTab ((fun _ h => nomatch h)) (by decide) (by decide) (ht _ zw_597) (va_Nw.use rfl (hEx.1.2.2.2.1 "java/lang/IndexOutOfBoundsException" (by decide))) hcell hv hcl ?_
    generalize H1 = H at hP hS ⊢
    have hP : va_P D vwCl [(o, .inl (cL, 1, .inr (.inl (fun _ => 0))))] H := hP
    have hD : va_D A [(o, .inl (cL, 1, .inr (.inl (fun _ => 0))))] := hD
    refine W.widen (k := 2) (n := 12) (Nat.le_of_ble_eq_true rfl) (Nat.le_of_ble_eq_true rfl) ?_
    refine lv_astore (lv' := [(5, .ref q9), (0, .ref (h 0)), (1, .int p0), (2, .int p1), (3, .int p2), (4, .ref o)]) hx hb dL_stepAt_15 hl (by decide) rfl (fun ls hl => ?_)
    refine lv_iconst (v := 1) hx hb dL_stepAt_17 (by decide) ?_
    have hP9 := hP.sub (ws' := [(o, .inl (cL, 1, .inr (.inl (fun _ => 0))))]) [0] rfl
    have hD9 := hD.sub (ws' := [(o, .inl (cL, 1, .inr (.inl (fun _ => 0))))]) [0] (by decide) rfl
    have hK9 := hK.sub (tys' := []) [] rfl
    refine W.widen (k := 2) (n := 12) (Nat.le_of_ble_eq_true rfl) (Nat.le_of_ble_eq_true rfl) ?_
    exact W.iret (v := 1) hx hb hr (fun t ht0 hW => ⟨⟨1, 0, rfl, hb9, (fun _ => 0), rfl, zE_of hP9 hK9 hD9 ht0 hW⟩, hS.F ht0⟩) hS.2.2 dL_stepAt_18
  obtain ⟨hP1, hK1, hD1⟩ := hB
  rw [ht0] at hP1
  have hK1 := va_K.moved hvm.symm hK1
  obtain ⟨hP, hD⟩ := va_join (wr := [(o, .inl (cL, 1, .inr (.inl (fun _ => 0))))]) (w1 := []) hP hD [0, 1, 2, 3] [4] rfl rfl (by decide) (by decide) hk1 hFc hP1 hD1
  generalize H1 = H at hP hS ⊢
  have hP : va_P D vwCl [(o, .inl (cL, 1, .inr (.inl (fun _ => 0))))] H := hP
  have hD : va_D A [(o, .inl (cL, 1, .inr (.inl (fun _ => 0))))] := hD
  refine W.widen (k := 2) (n := 12) (Nat.le_of_ble_eq_true rfl) (Nat.le_of_ble_eq_true rfl) ?_
  exfalso
  unfold zS_stepAt at hw_1
  obtain ⟨h9, -⟩ := hw_1
  exact absurd h9 (by decide)
set_option maxHeartbeats 4000000 in
set_option maxRecDepth 100000 in
theorem k_L_needs (l : Launch) (hl0 : l.stackTraces = false) (sz : Nat) (D : va_G) (h cs : Nat → Nat) (p0 : Int32) (fn : Nat → Option Nat) (hn : ∀ k : Nat, k < 4 → fn k = some (h 8)) (o : Nat) (cL : ClassId) : Met l yL_needs (.codeWith yL_needs cL_needs 4 (some .int) [(0, 9, 12, 21)] :: zT) ({ frames := 8, cells := 1, slots := 6, locals := 132 }) (va_Pc [.ref (h 0), .int p0, .ref o] (zY D [((h 0), .inr (11, [.ref (h 1), .ref (h 9), .int 0, .int 0, .ref (h 20), .ref (h 37), .int 0, .ref (h 38), .ref (h 42), .ref (h 43), .ref (h 44), .ref (h 45), .ref (h 46), .ref (h 47), .ref (h 48)])), ((h 1), .inr (8, [.ref (h 2), .int 0, .ref (h 3), .ref (h 4), .int 0, .ref (h 5), .int 0, .ref (h 6), .int 0, .ref (h 7), .int 0])), ((h 7), .inl ((cs 0), 4, .inr (.inr (.inr (.inr fn))))), ((h 8), .inr (0, [.ref (h 102), .ref (h 103), .int 0])), (o, .inl (cL, 1, .inr (.inl (fun _ => 0))))] [((cs 0), .object RX0), (cL, .long)] sz)) (va_Qi (fun (r u : Int32) => zS_needs p0 r u) (fun u t => ∃ g2 : Nat → Int64, g2 0 = u.toInt64 ∧ zE D [(o, .inl (cL, 1, .inr (.inl g2)))] [] (va_A [((h 0), .inr (11, [.ref (h 1), .ref (h 9), .int 0, .int 0, .ref (h 20), .ref (h 37), .int 0, .ref (h 38), .ref (h 42), .ref (h 43), .ref (h 44), .ref (h 45), .ref (h 46), .ref (h 47), .ref (h 48)])), ((h 1), .inr (8, [.ref (h 2), .int 0, .ref (h 3), .ref (h 4), .int 0, .ref (h 5), .int 0, .ref (h 6), .int 0, .ref (h 7), .int 0])), ((h 7), .inl ((cs 0), 4, .inr (.inr (.inr (.inr fn))))), ((h 8), .inr (0, [.ref (h 102), .ref (h 103), .int 0])), (o, .inl (cL, 1, .inr (.inl (fun _ => 0))))] sz) t) (va_A [((h 0), .inr (11, [.ref (h 1), .ref (h 9), .int 0, .int 0, .ref (h 20), .ref (h 37), .int 0, .ref (h 38), .ref (h 42), .ref (h 43), .ref (h 44), .ref (h 45), .ref (h 46), .ref (h 47), .ref (h 48)])), ((h 1), .inr (8, [.ref (h 2), .int 0, .ref (h 3), .ref (h 4), .int 0, .ref (h 5), .int 0, .ref (h 6), .int 0, .ref (h 7), .int 0])), ((h 7), .inl ((cs 0), 4, .inr (.inr (.inr (.inr fn))))), ((h 8), .inr (0, [.ref (h 102), .ref (h 103), .int 0])), (o, .inl (cL, 1, .inr (.inl (fun _ => 0))))] sz)) 1 6 (va_A [((h 0), .inr (11, [.ref (h 1), .ref (h 9), .int 0, .int 0, .ref (h 20), .ref (h 37), .int 0, .ref (h 38), .ref (h 42), .ref (h 43), .ref (h 44), .ref (h 45), .ref (h 46), .ref (h 47), .ref (h 48)])), ((h 1), .inr (8, [.ref (h 2), .int 0, .ref (h 3), .ref (h 4), .int 0, .ref (h 5), .int 0, .ref (h 6), .int 0, .ref (h 7), .int 0])), ((h 7), .inl ((cs 0), 4, .inr (.inr (.inr (.inr fn))))), ((h 8), .inr (0, [.ref (h 102), .ref (h 103), .int 0])), (o, .inl (cL, 1, .inr (.inl (fun _ => 0))))] sz) := by
  refine zOfWH (cc := cL_needs) (maxL := 4) (ret := (some .int)) (by decide) rfl ?_
  intro p e s m args below meth c s₁ B hml hv
  obtain ⟨rfl, hNc, hEx, hsz, hP, hK, hD0⟩ := hv
  have hx := B.exec
  have hb := B.bytes
  have hr := B.returns
  have hts := atoms_spec (ws := (.codeWith yL_needs cL_needs 4 (some .int) [(0, 9, 12, 21)] :: zT)) B.pre
  have ht : ∀ w ∈ zT, w.before _ s = true := fun w h => hts w (List.mem_cons_of_mem _ h)
  have hown : s.vm.findClass RL = some m.cls := findClass_of_methodNamed B.named
  have hlocks := B.notSynchronized
  have hTab := vx_table (x := yL_needs) B (hts _ List.mem_cons_self)
  subst hsz
  have hD := hD0.self (sz := s.heap.size)
  generalize hAe : va_A [((h 0), .inr (11, [.ref (h 1), .ref (h 9), .int 0, .int 0, .ref (h 20), .ref (h 37), .int 0, .ref (h 38), .ref (h 42), .ref (h 43), .ref (h 44), .ref (h 45), .ref (h 46), .ref (h 47), .ref (h 48)])), ((h 1), .inr (8, [.ref (h 2), .int 0, .ref (h 3), .ref (h 4), .int 0, .ref (h 5), .int 0, .ref (h 6), .int 0, .ref (h 7), .int 0])), ((h 7), .inl ((cs 0), 4, .inr (.inr (.inr (.inr fn))))), ((h 8), .inr (0, [.ref (h 102), .ref (h 103), .int 0])), (o, .inl (cL, 1, .inr (.inl (fun _ => 0))))] s.heap.size = A at hD hEx ⊢
  have hA : ∀ q : Nat, s.heap.size ≤ q → A q := fun q h => by rw [← hAe]; exact Or.inr h
  have hS : va_S A s.heap s.heap [] := va_S.rf
  have hP : va_P D vwCl [((h 0), .inr (11, [.ref (h 1), .ref (h 9), .int 0, .int 0, .ref (h 20), .ref (h 37), .int 0, .ref (h 38), .ref (h 42), .ref (h 43), .ref (h 44), .ref (h 45), .ref (h 46), .ref (h 47), .ref (h 48)])), ((h 1), .inr (8, [.ref (h 2), .int 0, .ref (h 3), .ref (h 4), .int 0, .ref (h 5), .int 0, .ref (h 6), .int 0, .ref (h 7), .int 0])), ((h 7), .inl ((cs 0), 4, .inr (.inr (.inr (.inr fn))))), ((h 8), .inr (0, [.ref (h 102), .ref (h 103), .int 0])), (o, .inl (cL, 1, .inr (.inl (fun _ => 0))))] s.heap := hP
  have hl := lv_entry ([.ref (h 0), .int p0, .ref o]) (n := 4) (Nat.le_of_ble_eq_true rfl)
  rw [lg_entry_eq]
  generalize (lg_sl ([.ref (h 0), .int p0, .ref o]) ++ List.replicate (4 - (lg_sl ([.ref (h 0), .int p0, .ref o])).length) Slot.unset).toArray = ls at hl ⊢
  have hl : lv_has ls 4 [(0, .ref (h 0)), (1, .int p0), (2, .ref o)] := hl
  skip
  refine lv_aload_n hx hb dL_needs_0 rfl (lv_at hl 2 rfl) ?_
  refine lv_iconst (v := 0) hx hb dL_needs_1 (by decide) ?_
  refine lv_aload_n hx hb dL_needs_2 rfl (lv_at hl 0 rfl) ?_
  refine lv_iload_n hx hb dL_needs_3 rfl (lv_at hl 1 rfl) ?_
  have hPc := hP.sub (ws' := [((h 0), .inr (11, [.ref (h 1), .ref (h 9), .int 0, .int 0, .ref (h 20), .ref (h 37), .int 0, .ref (h 38), .ref (h 42), .ref (h 43), .ref (h 44), .ref (h 45), .ref (h 46), .ref (h 47), .ref (h 48)])), ((h 1), .inr (8, [.ref (h 2), .int 0, .ref (h 3), .ref (h 4), .int 0, .ref (h 5), .int 0, .ref (h 6), .int 0, .ref (h 7), .int 0])), ((h 7), .inl ((cs 0), 4, .inr (.inr (.inr (.inr fn))))), ((h 8), .inr (0, [.ref (h 102), .ref (h 103), .int 0]))]) [0, 1, 2, 3] rfl
  have hDc := hD.sub (ws' := [((h 0), .inr (11, [.ref (h 1), .ref (h 9), .int 0, .int 0, .ref (h 20), .ref (h 37), .int 0, .ref (h 38), .ref (h 42), .ref (h 43), .ref (h 44), .ref (h 45), .ref (h 46), .ref (h 47), .ref (h 48)])), ((h 1), .inr (8, [.ref (h 2), .int 0, .ref (h 3), .ref (h 4), .int 0, .ref (h 5), .int 0, .ref (h 6), .int 0, .ref (h 7), .int 0])), ((h 7), .inl ((cs 0), 4, .inr (.inr (.inr (.inr fn))))), ((h 8), .inr (0, [.ref (h 102), .ref (h 103), .int 0]))]) [0, 1, 2, 3] (by decide) rfl
  have hKc := hK.sub (tys' := [((cs 0), .object RX0)]) [0] rfl
  have hFc := va_free (wc := [((h 0), .inr (11, [.ref (h 1), .ref (h 9), .int 0, .int 0, .ref (h 20), .ref (h 37), .int 0, .ref (h 38), .ref (h 42), .ref (h 43), .ref (h 44), .ref (h 45), .ref (h 46), .ref (h 47), .ref (h 48)])), ((h 1), .inr (8, [.ref (h 2), .int 0, .ref (h 3), .ref (h 4), .int 0, .ref (h 5), .int 0, .ref (h 6), .int 0, .ref (h 7), .int 0])), ((h 7), .inl ((cs 0), 4, .inr (.inr (.inr (.inr fn))))), ((h 8), .inr (0, [.ref (h 102), .ref (h 103), .int 0]))]) hD hS hA [0, 1, 2, 3] rfl
  refine vx_calli (vx_runV (As := [.int p0]) (rest := [.int 0, .ref o]) ⟨hx, hb, hml, hown, ht⟩ (k_X11_needs l hl0 _ D h cs p0 fn hn) (cwV 1 ht (zG_V zw_744 zw_745 zw_746 zw_404 zw_747) rfl rfl rfl (by decide +kernel) ⟨Nat.le_of_ble_eq_true rfl, Nat.le_of_ble_eq_true rfl⟩) (zW_V (va_recv hK hP (ci := 11) (q0 := 0) rfl rfl) hEx hS hFc hPc hKc hDc) rfl rfl hl.1 rfl (lv_room (Nat.le_of_ble_eq_true rfl)) dL_needs_4 ⟨Nat.le_of_ble_eq_true rfl, Nat.le_of_ble_eq_true rfl⟩) hS (fun q _ h => hFc q h) hFc (fun q _ h => hFc q h) (fun E ce q9 uu t H1 locs1 ht0 hvm hpx hB hz1 hk1 hS hcell hv hcl => ?_) (fun r_1 u_1 t H1 locs ht0 hvm hw_1 hB hz1 hk1 hS => ?_)
  · skip
    obtain ⟨rfl, hb9⟩ := hB
    obtain ⟨hP, hD⟩ := va_join (wr := [(o, .inl (cL, 1, .inr (.inl (fun _ => 0))))]) (w1 := []) hP hD [0, 1, 2, 3] [4] rfl rfl (by decide) (by decide) hk1 hFc zP_nil zD_nil
    refine vx_catch (name := "java/lang/IndexOutOfBoundsException") hown [] ⟨0, 9, 12, 21⟩ [] hTab ((fun _ h => nomatch h)) (by decide) (by decide) (ht _ zw_597) (va_Nw.use rfl (hEx.1.2.2.2.1 "java/lang/IndexOutOfBoundsException" (by decide))) hcell hv hcl ?_
    generalize H1 = H at hP hS ⊢
    have hP : va_P D vwCl [(o, .inl (cL, 1, .inr (.inl (fun _ => 0))))] H := hP
    have hD : va_D A [(o, .inl (cL, 1, .inr (.inl (fun _ => 0))))] := hD
    refine W.widen (k := 1) (n := 6) (Nat.le_of_ble_eq_true rfl) (Nat.le_of_ble_eq_true rfl) ?_
    refine lv_astore_n (lv' := [(3, .ref q9), (0, .ref (h 0)), (1, .int p0), (2, .ref o)]) hx hb dL_needs_12 rfl hl (by decide) rfl (fun ls hl => ?_)
    refine lv_iconst (v := 1) hx hb dL_needs_13 (by decide) ?_
    have hP9 := hP.sub (ws' := [(o, .inl (cL, 1, .inr (.inl (fun _ => 0))))]) [0] rfl
    have hD9 := hD.sub (ws' := [(o, .inl (cL, 1, .inr (.inl (fun _ => 0))))]) [0] (by decide) rfl
    have hK9 := hK.sub (tys' := []) [] rfl
    refine W.widen (k := 1) (n := 6) (Nat.le_of_ble_eq_true rfl) (Nat.le_of_ble_eq_true rfl) ?_
    exact W.iret (v := 1) hx hb hr (fun t ht0 hW => ⟨⟨1, 0, rfl, hb9, (fun _ => 0), rfl, zE_of hP9 hK9 hD9 ht0 hW⟩, hS.F ht0⟩) hS.2.2 dL_needs_14
  obtain ⟨hP1, hK1, hD1⟩ := hB
  rw [ht0] at hP1
  have hK1 := va_K.moved hvm.symm hK1
  obtain ⟨hP, hD⟩ := va_join (wr := [(o, .inl (cL, 1, .inr (.inl (fun _ => 0))))]) (w1 := []) hP hD [0, 1, 2, 3] [4] rfl rfl (by decide) (by decide) hk1 hFc hP1 hD1
  generalize H1 = H at hP hS ⊢
  have hP : va_P D vwCl [(o, .inl (cL, 1, .inr (.inl (fun _ => 0))))] H := hP
  have hD : va_D A [(o, .inl (cL, 1, .inr (.inl (fun _ => 0))))] := hD
  refine W.widen (k := 1) (n := 6) (Nat.le_of_ble_eq_true rfl) (Nat.le_of_ble_eq_true rfl) ?_
  refine lv_i2l (v := (r_1).toInt64) hx hb dL_needs_7 rfl ?_
  refine va_last hx hb hK hP hD hS 0 1 rfl rfl (vp_in_iff.mpr (by decide)) dL_needs_8 (fun H locs hP hD hS => ?_)
  have hP : va_P D vwCl [(o, .inl (cL, 1, .inr (.inl (vp_updL (fun _ => 0) 0 ((r_1).toInt64)))))] H := hP
  have hD : va_D A [(o, .inl (cL, 1, .inr (.inl (vp_updL (fun _ => 0) 0 ((r_1).toInt64)))))] := hD
  refine lv_goto (tgt := 15) hx hb dL_needs_9 (by decide) ?_
  refine lv_iconst (v := 0) hx hb dL_needs_15 (by decide) ?_
  have hP9 := hP.sub (ws' := [(o, .inl (cL, 1, .inr (.inl (vp_updL (fun _ => 0) 0 ((r_1).toInt64)))))]) [0] rfl
  have hD9 := hD.sub (ws' := [(o, .inl (cL, 1, .inr (.inl (vp_updL (fun _ => 0) 0 ((r_1).toInt64)))))]) [0] (by decide) rfl
  have hK9 := hK.sub (tys' := []) [] rfl
  refine W.widen (k := 1) (n := 6) (Nat.le_of_ble_eq_true rfl) (Nat.le_of_ble_eq_true rfl) ?_
  exact W.iret (v := 0) hx hb hr (fun t ht0 hW => ⟨⟨0, r_1, rfl, hw_1, (vp_updL (fun _ => 0) 0 ((r_1).toInt64)), (by simp [vp_updL]), zE_of hP9 hK9 hD9 ht0 hW⟩, hS.F ht0⟩) hS.2.2 dL_needs_16
set_option maxHeartbeats 4000000 in
set_option maxRecDepth 100000 in
theorem k_L_fails (l : Launch) (hl0 : l.stackTraces = false) (sz : Nat) (D : va_G) (h cs : Nat → Nat) (p0 p1 p2 p3 : Int32) (o : Nat) (cL : ClassId) : Met l yL_fails (.codeWith yL_fails cL_fails 7 (some .int) [(0, 14, 17, 21), (0, 14, 21, 15), (0, 14, 25, 13)] :: zT) ({ frames := 8, cells := 4, slots := 27, locals := 137 }) (va_Pc [.ref (h 0), .int p0, .int p1, .int p2, .int p3, .ref o] (zY D [((h 0), .inr (11, [.ref (h 1), .ref (h 9), .int 0, .int 0, .ref (h 20), .ref (h 37), .int 0, .ref (h 38), .ref (h 42), .ref (h 43), .ref (h 44), .ref (h 45), .ref (h 46), .ref (h 47), .ref (h 48)])), ((h 1), .inr (8, [.ref (h 2), .int 0, .ref (h 3), .ref (h 4), .int 0, .ref (h 5), .int 0, .ref (h 6), .int 0, .ref (h 7), .int 0])), ((h 3), .inl ((cs 9), 10, .inr (.inr (.inr (.inr (fun _ => none)))))), (o, .inl (cL, 1, .inr (.inl (fun _ => 0))))] [((cs 9), .object RX9), (cL, .long)] sz)) (va_Qi (fun (r u : Int32) => zS_fails p0 p1 p2 p3 r u) (fun u t => ∃ g2 : Nat → Int64, g2 0 = u.toInt64 ∧ zE D [(o, .inl (cL, 1, .inr (.inl g2)))] [] (va_A [((h 0), .inr (11, [.ref (h 1), .ref (h 9), .int 0, .int 0, .ref (h 20), .ref (h 37), .int 0, .ref (h 38), .ref (h 42), .ref (h 43), .ref (h 44), .ref (h 45), .ref (h 46), .ref (h 47), .ref (h 48)])), ((h 1), .inr (8, [.ref (h 2), .int 0, .ref (h 3), .ref (h 4), .int 0, .ref (h 5), .int 0, .ref (h 6), .int 0, .ref (h 7), .int 0])), ((h 3), .inl ((cs 9), 10, .inr (.inr (.inr (.inr (fun _ => none)))))), (o, .inl (cL, 1, .inr (.inl (fun _ => 0))))] sz) t) (va_A [((h 0), .inr (11, [.ref (h 1), .ref (h 9), .int 0, .int 0, .ref (h 20), .ref (h 37), .int 0, .ref (h 38), .ref (h 42), .ref (h 43), .ref (h 44), .ref (h 45), .ref (h 46), .ref (h 47), .ref (h 48)])), ((h 1), .inr (8, [.ref (h 2), .int 0, .ref (h 3), .ref (h 4), .int 0, .ref (h 5), .int 0, .ref (h 6), .int 0, .ref (h 7), .int 0])), ((h 3), .inl ((cs 9), 10, .inr (.inr (.inr (.inr (fun _ => none)))))), (o, .inl (cL, 1, .inr (.inl (fun _ => 0))))] sz)) 4 27 (va_A [((h 0), .inr (11, [.ref (h 1), .ref (h 9), .int 0, .int 0, .ref (h 20), .ref (h 37), .int 0, .ref (h 38), .ref (h 42), .ref (h 43), .ref (h 44), .ref (h 45), .ref (h 46), .ref (h 47), .ref (h 48)])), ((h 1), .inr (8, [.ref (h 2), .int 0, .ref (h 3), .ref (h 4), .int 0, .ref (h 5), .int 0, .ref (h 6), .int 0, .ref (h 7), .int 0])), ((h 3), .inl ((cs 9), 10, .inr (.inr (.inr (.inr (fun _ => none)))))), (o, .inl (cL, 1, .inr (.inl (fun _ => 0))))] sz) := by
  refine zOfWH (cc := cL_fails) (maxL := 7) (ret := (some .int)) (by decide) rfl ?_
  intro p e s m args below meth c s₁ B hml hv
  obtain ⟨rfl, hNc, hEx, hsz, hP, hK, hD0⟩ := hv
  have hx := B.exec
  have hb := B.bytes
  have hr := B.returns
  have hts := atoms_spec (ws := (.codeWith yL_fails cL_fails 7 (some .int) [(0, 14, 17, 21), (0, 14, 21, 15), (0, 14, 25, 13)] :: zT)) B.pre
  have ht : ∀ w ∈ zT, w.before _ s = true := fun w h => hts w (List.mem_cons_of_mem _ h)
  have hown : s.vm.findClass RL = some m.cls := findClass_of_methodNamed B.named
  have hlocks := B.notSynchronized
  have hTab := vx_table (x := yL_fails) B (hts _ List.mem_cons_self)
  subst hsz
  have hD := hD0.self (sz := s.heap.size)
  generalize hAe : va_A [((h 0), .inr (11, [.ref (h 1), .ref (h 9), .int 0, .int 0, .ref (h 20), .ref (h 37), .int 0, .ref (h 38), .ref (h 42), .ref (h 43), .ref (h 44), .ref (h 45), .ref (h 46), .ref (h 47), .ref (h 48)])), ((h 1), .inr (8, [.ref (h 2), .int 0, .ref (h 3), .ref (h 4), .int 0, .ref (h 5), .int 0, .ref (h 6), .int 0, .ref (h 7), .int 0])), ((h 3), .inl ((cs 9), 10, .inr (.inr (.inr (.inr (fun _ => none)))))), (o, .inl (cL, 1, .inr (.inl (fun _ => 0))))] s.heap.size = A at hD hEx ⊢
  have hA : ∀ q : Nat, s.heap.size ≤ q → A q := fun q h => by rw [← hAe]; exact Or.inr h
  have hS : va_S A s.heap s.heap [] := va_S.rf
  have hP : va_P D vwCl [((h 0), .inr (11, [.ref (h 1), .ref (h 9), .int 0, .int 0, .ref (h 20), .ref (h 37), .int 0, .ref (h 38), .ref (h 42), .ref (h 43), .ref (h 44), .ref (h 45), .ref (h 46), .ref (h 47), .ref (h 48)])), ((h 1), .inr (8, [.ref (h 2), .int 0, .ref (h 3), .ref (h 4), .int 0, .ref (h 5), .int 0, .ref (h 6), .int 0, .ref (h 7), .int 0])), ((h 3), .inl ((cs 9), 10, .inr (.inr (.inr (.inr (fun _ => none)))))), (o, .inl (cL, 1, .inr (.inl (fun _ => 0))))] s.heap := hP
  have hl := lv_entry ([.ref (h 0), .int p0, .int p1, .int p2, .int p3, .ref o]) (n := 7) (Nat.le_of_ble_eq_true rfl)
  rw [lg_entry_eq]
  generalize (lg_sl ([.ref (h 0), .int p0, .int p1, .int p2, .int p3, .ref o]) ++ List.replicate (7 - (lg_sl ([.ref (h 0), .int p0, .int p1, .int p2, .int p3, .ref o])).length) Slot.unset).toArray = ls at hl ⊢
  have hl : lv_has ls 7 [(0, .ref (h 0)), (1, .int p0), (2, .int p1), (3, .int p2), (4, .int p3), (5, .ref o)] := hl
  skip
  refine lv_aload hx hb dL_fails_0 (lv_at hl 5 rfl) ?_
  refine lv_iconst (v := 0) hx hb dL_fails_2 (by decide) ?_
  refine lv_aload_n hx hb dL_fails_3 rfl (lv_at hl 0 rfl) ?_
  refine lv_iload_n hx hb dL_fails_4 rfl (lv_at hl 1 rfl) ?_
  refine lv_iload_n hx hb dL_fails_5 rfl (lv_at hl 2 rfl) ?_
  refine lv_iload_n hx hb dL_fails_6 rfl (lv_at hl 3 rfl) ?_
  refine lv_iload hx hb dL_fails_7 (lv_at hl 4 rfl) ?_
  have hPc := hP.sub (ws' := [((h 0), .inr (11, [.ref (h 1), .ref (h 9), .int 0, .int 0, .ref (h 20), .ref (h 37), .int 0, .ref (h 38), .ref (h 42), .ref (h 43), .ref (h 44), .ref (h 45), .ref (h 46), .ref (h 47), .ref (h 48)])), ((h 1), .inr (8, [.ref (h 2), .int 0, .ref (h 3), .ref (h 4), .int 0, .ref (h 5), .int 0, .ref (h 6), .int 0, .ref (h 7), .int 0])), ((h 3), .inl ((cs 9), 10, .inr (.inr (.inr (.inr (fun _ => none))))))]) [0, 1, 2] rfl
  have hDc := hD.sub (ws' := [((h 0), .inr (11, [.ref (h 1), .ref (h 9), .int 0, .int 0, .ref (h 20), .ref (h 37), .int 0, .ref (h 38), .ref (h 42), .ref (h 43), .ref (h 44), .ref (h 45), .ref (h 46), .ref (h 47), .ref (h 48)])), ((h 1), .inr (8, [.ref (h 2), .int 0, .ref (h 3), .ref (h 4), .int 0, .ref (h 5), .int 0, .ref (h 6), .int 0, .ref (h 7), .int 0])), ((h 3), .inl ((cs 9), 10, .inr (.inr (.inr (.inr (fun _ => none))))))]) [0, 1, 2] (by decide) rfl
  have hKc := hK.sub (tys' := [((cs 9), .object RX9)]) [0] rfl
  have hFc := va_free (wc := [((h 0), .inr (11, [.ref (h 1), .ref (h 9), .int 0, .int 0, .ref (h 20), .ref (h 37), .int 0, .ref (h 38), .ref (h 42), .ref (h 43), .ref (h 44), .ref (h 45), .ref (h 46), .ref (h 47), .ref (h 48)])), ((h 1), .inr (8, [.ref (h 2), .int 0, .ref (h 3), .ref (h 4), .int 0, .ref (h 5), .int 0, .ref (h 6), .int 0, .ref (h 7), .int 0])), ((h 3), .inl ((cs 9), 10, .inr (.inr (.inr (.inr (fun _ => none))))))]) hD hS hA [0, 1, 2] rfl
  refine vx_calli (vx_runV (As := [.int p0, .int p1, .int p2, .int p3]) (rest := [.int 0, .ref o]) ⟨hx, hb, hml, hown, ht⟩ (k_X11_fails l hl0 _ D h cs p0 p1 p2 p3) (cwV 4 ht (zG_V zw_748 zw_749 zw_750 zw_404 zw_751) rfl rfl rfl (by decide +kernel) ⟨Nat.le_of_ble_eq_true rfl, Nat.le_of_ble_eq_true rfl⟩) (zW_V (va_recv hK hP (ci := 11) (q0 := 0) rfl rfl) hEx hS hFc hPc hKc hDc) rfl rfl hl.1 rfl (lv_room (Nat.le_of_ble_eq_true rfl)) dL_fails_9 ⟨Nat.le_of_ble_eq_true rfl, Nat.le_of_ble_eq_true rfl⟩) hS (fun q _ h => hFc q h) hFc (fun q _ h => hFc q h) (fun E ce q9 uu t H1 locs1 ht0 hvm hpx hB hz1 hk1 hS hcell hv hcl => ?_) (fun r_1 u_1 t H1 locs ht0 hvm hw_1 hB hz1 hk1 hS => ?_)
  · skip
    rcases hB with ⟨rfl, hb9⟩ | ⟨rfl, hb9⟩
    · skip
      obtain ⟨hP, hD⟩ := va_join (wr := [(o, .inl (cL, 1, .inr (.inl (fun _ => 0))))]) (w1 := []) hP hD [0, 1, 2] [3] rfl rfl (by decide) (by decide) hk1 hFc zP_nil zD_nil
      refine vx_catch (name := "java/lang/IndexOutOfBoundsException") hown [] ⟨0, 14, 17, 21⟩ [⟨0, 14, 21, 15⟩, ⟨0, 14, 25, 13⟩] hTab ((fun _ h => nomatch h)) (by decide) (by decide) (ht _ zw_597) (va_Nw.use rfl (hEx.1.2.2.2.1 "java/lang/IndexOutOfBoundsException" (by decide))) hcell hv hcl ?_
      generalize H1 = H at hP hS ⊢
      have hP : va_P D vwCl [(o, .inl (cL, 1, .inr (.inl (fun _ => 0))))] H := hP
      have hD : va_D A [(o, .inl (cL, 1, .inr (.inl (fun _ => 0))))] := hD
      refine W.widen (k := 4) (n := 27) (Nat.le_of_ble_eq_true rfl) (Nat.le_of_ble_eq_true rfl) ?_
      refine lv_astore (lv' := [(6, .ref q9), (0, .ref (h 0)), (1, .int p0), (2, .int p1), (3, .int p2), (4, .int p3), (5, .ref o)]) hx hb dL_fails_17 hl (by decide) rfl (fun ls hl => ?_)
      refine lv_iconst (v := 1) hx hb dL_fails_19 (by decide) ?_
      have hP9 := hP.sub (ws' := [(o, .inl (cL, 1, .inr (.inl (fun _ => 0))))]) [0] rfl
      have hD9 := hD.sub (ws' := [(o, .inl (cL, 1, .inr (.inl (fun _ => 0))))]) [0] (by decide) rfl
      have hK9 := hK.sub (tys' := []) [] rfl
      refine W.widen (k := 4) (n := 27) (Nat.le_of_ble_eq_true rfl) (Nat.le_of_ble_eq_true rfl) ?_
      exact W.iret (v := 1) hx hb hr (fun t ht0 hW => ⟨⟨1, 0, rfl, hb9, (fun _ => 0), rfl, zE_of hP9 hK9 hD9 ht0 hW⟩, hS.F ht0⟩) hS.2.2 dL_fails_20
    · skip
      obtain ⟨hP, hD⟩ := va_join (wr := [(o, .inl (cL, 1, .inr (.inl (fun _ => 0))))]) (w1 := []) hP hD [0, 1, 2] [3] rfl rfl (by decide) (by decide) hk1 hFc zP_nil zD_nil
      refine vx_catch (name := "java/lang/IllegalStateException") hown [⟨0, 14, 17, 21⟩] ⟨0, 14, 21, 15⟩ [⟨0, 14, 25, 13⟩] hTab (List.forall_mem_cons.mpr ⟨.inr ⟨by decide, "java/lang/IndexOutOfBoundsException", ht _ zw_597, hNc ("java/lang/IllegalStateException", "java/lang/IndexOutOfBoundsException") (by decide)⟩, (fun _ h => nomatch h)⟩) (by decide) (by decide) (ht _ zw_610) (va_Nw.use rfl (hEx.1.2.2.2.1 "java/lang/IllegalStateException" (by decide))) hcell hv hcl ?_
      generalize H1 = H at hP hS ⊢
      have hP : va_P D vwCl [(o, .inl (cL, 1, .inr (.inl (fun _ => 0))))] H := hP
      have hD : va_D A [(o, .inl (cL, 1, .inr (.inl (fun _ => 0))))] := hD
      refine W.widen (k := 4) (n := 27) (Nat.le_of_ble_eq_true rfl) (Nat.le_of_ble_eq_true rfl) ?_
      refine lv_astore (lv' := [(6, .ref q9), (0, .ref (h 0)), (1, .int p0), (2, .int p1), (3, .int p2), (4, .int p3), (5, .ref o)]) hx hb dL_fails_21 hl (by decide) rfl (fun ls hl => ?_)
      refine lv_iconst (v := 2) hx hb dL_fails_23 (by decide) ?_
      have hP9 := hP.sub (ws' := [(o, .inl (cL, 1, .inr (.inl (fun _ => 0))))]) [0] rfl
      have hD9 := hD.sub (ws' := [(o, .inl (cL, 1, .inr (.inl (fun _ => 0))))]) [0] (by decide) rfl
      have hK9 := hK.sub (tys' := []) [] rfl
      refine W.widen (k := 4) (n := 27) (Nat.le_of_ble_eq_true rfl) (Nat.le_of_ble_eq_true rfl) ?_
      exact W.iret (v := 2) hx hb hr (fun t ht0 hW => ⟨⟨2, 0, rfl, hb9, (fun _ => 0), rfl, zE_of hP9 hK9 hD9 ht0 hW⟩, hS.F ht0⟩) hS.2.2 dL_fails_24
  obtain ⟨hP1, hK1, hD1⟩ := hB
  rw [ht0] at hP1
  have hK1 := va_K.moved hvm.symm hK1
  obtain ⟨hP, hD⟩ := va_join (wr := [(o, .inl (cL, 1, .inr (.inl (fun _ => 0))))]) (w1 := []) hP hD [0, 1, 2] [3] rfl rfl (by decide) (by decide) hk1 hFc hP1 hD1
  generalize H1 = H at hP hS ⊢
  have hP : va_P D vwCl [(o, .inl (cL, 1, .inr (.inl (fun _ => 0))))] H := hP
  have hD : va_D A [(o, .inl (cL, 1, .inr (.inl (fun _ => 0))))] := hD
  refine W.widen (k := 4) (n := 27) (Nat.le_of_ble_eq_true rfl) (Nat.le_of_ble_eq_true rfl) ?_
  exfalso
  unfold zS_fails at hw_1
  rcases hw_1 with ⟨h9, -⟩ | ⟨h9, -⟩
  · exact absurd h9 (by decide)
  · exact absurd h9 (by decide)
set_option maxHeartbeats 4000000 in
set_option maxRecDepth 100000 in
theorem k_L_value (l : Launch) (hl0 : l.stackTraces = false) (sz : Nat) (D : va_G) (h cs : Nat → Nat) (p0 p1 p2 : Int32) (o : Nat) (cL : ClassId) : Met l yL_value (.codeWith yL_value cL_value 6 (some .int) [(0, 12, 15, 21), (0, 12, 19, 15), (0, 12, 23, 13)] :: zT) ({ frames := 8, cells := 2, slots := 12, locals := 136 }) (va_Pc [.ref (h 0), .int p0, .int p1, .int p2, .ref o] (zY D [((h 0), .inr (11, [.ref (h 1), .ref (h 9), .int 0, .int 0, .ref (h 20), .ref (h 37), .int 0, .ref (h 38), .ref (h 42), .ref (h 43), .ref (h 44), .ref (h 45), .ref (h 46), .ref (h 47), .ref (h 48)])), ((h 1), .inr (8, [.ref (h 2), .int 0, .ref (h 3), .ref (h 4), .int 0, .ref (h 5), .int 0, .ref (h 6), .int 0, .ref (h 7), .int 0])), ((h 3), .inl ((cs 9), 10, .inr (.inr (.inr (.inr (fun _ => none)))))), (o, .inl (cL, 1, .inr (.inl (fun _ => 0))))] [((cs 9), .object RX9), (cL, .long)] sz)) (va_Qi (fun (r u : Int32) => zS_value p0 p1 p2 r u) (fun u t => ∃ g2 : Nat → Int64, g2 0 = u.toInt64 ∧ zE D [(o, .inl (cL, 1, .inr (.inl g2)))] [] (va_A [((h 0), .inr (11, [.ref (h 1), .ref (h 9), .int 0, .int 0, .ref (h 20), .ref (h 37), .int 0, .ref (h 38), .ref (h 42), .ref (h 43), .ref (h 44), .ref (h 45), .ref (h 46), .ref (h 47), .ref (h 48)])), ((h 1), .inr (8, [.ref (h 2), .int 0, .ref (h 3), .ref (h 4), .int 0, .ref (h 5), .int 0, .ref (h 6), .int 0, .ref (h 7), .int 0])), ((h 3), .inl ((cs 9), 10, .inr (.inr (.inr (.inr (fun _ => none)))))), (o, .inl (cL, 1, .inr (.inl (fun _ => 0))))] sz) t) (va_A [((h 0), .inr (11, [.ref (h 1), .ref (h 9), .int 0, .int 0, .ref (h 20), .ref (h 37), .int 0, .ref (h 38), .ref (h 42), .ref (h 43), .ref (h 44), .ref (h 45), .ref (h 46), .ref (h 47), .ref (h 48)])), ((h 1), .inr (8, [.ref (h 2), .int 0, .ref (h 3), .ref (h 4), .int 0, .ref (h 5), .int 0, .ref (h 6), .int 0, .ref (h 7), .int 0])), ((h 3), .inl ((cs 9), 10, .inr (.inr (.inr (.inr (fun _ => none)))))), (o, .inl (cL, 1, .inr (.inl (fun _ => 0))))] sz)) 2 12 (va_A [((h 0), .inr (11, [.ref (h 1), .ref (h 9), .int 0, .int 0, .ref (h 20), .ref (h 37), .int 0, .ref (h 38), .ref (h 42), .ref (h 43), .ref (h 44), .ref (h 45), .ref (h 46), .ref (h 47), .ref (h 48)])), ((h 1), .inr (8, [.ref (h 2), .int 0, .ref (h 3), .ref (h 4), .int 0, .ref (h 5), .int 0, .ref (h 6), .int 0, .ref (h 7), .int 0])), ((h 3), .inl ((cs 9), 10, .inr (.inr (.inr (.inr (fun _ => none)))))), (o, .inl (cL, 1, .inr (.inl (fun _ => 0))))] sz) := by
  refine zOfWH (cc := cL_value) (maxL := 6) (ret := (some .int)) (by decide) rfl ?_
  intro p e s m args below meth c s₁ B hml hv
  obtain ⟨rfl, hNc, hEx, hsz, hP, hK, hD0⟩ := hv
  have hx := B.exec
  have hb := B.bytes
  have hr := B.returns
  have hts := atoms_spec (ws := (.codeWith yL_value cL_value 6 (some .int) [(0, 12, 15, 21), (0, 12, 19, 15), (0, 12, 23, 13)] :: zT)) B.pre
  have ht : ∀ w ∈ zT, w.before _ s = true := fun w h => hts w (List.mem_cons_of_mem _ h)
  have hown : s.vm.findClass RL = some m.cls := findClass_of_methodNamed B.named
  have hlocks := B.notSynchronized
  have hTab := vx_table (x := yL_value) B (hts _ List.mem_cons_self)
  subst hsz
  have hD := hD0.self (sz := s.heap.size)
  generalize hAe : va_A [((h 0), .inr (11, [.ref (h 1), .ref (h 9), .int 0, .int 0, .ref (h 20), .ref (h 37), .int 0, .ref (h 38), .ref (h 42), .ref (h 43), .ref (h 44), .ref (h 45), .ref (h 46), .ref (h 47), .ref (h 48)])), ((h 1), .inr (8, [.ref (h 2), .int 0, .ref (h 3), .ref (h 4), .int 0, .ref (h 5), .int 0, .ref (h 6), .int 0, .ref (h 7), .int 0])), ((h 3), .inl ((cs 9), 10, .inr (.inr (.inr (.inr (fun _ => none)))))), (o, .inl (cL, 1, .inr (.inl (fun _ => 0))))] s.heap.size = A at hD hEx ⊢
  have hA : ∀ q : Nat, s.heap.size ≤ q → A q := fun q h => by rw [← hAe]; exact Or.inr h
  have hS : va_S A s.heap s.heap [] := va_S.rf
  have hP : va_P D vwCl [((h 0), .inr (11, [.ref (h 1), .ref (h 9), .int 0, .int 0, .ref (h 20), .ref (h 37), .int 0, .ref (h 38), .ref (h 42), .ref (h 43), .ref (h 44), .ref (h 45), .ref (h 46), .ref (h 47), .ref (h 48)])), ((h 1), .inr (8, [.ref (h 2), .int 0, .ref (h 3), .ref (h 4), .int 0, .ref (h 5), .int 0, .ref (h 6), .int 0, .ref (h 7), .int 0])), ((h 3), .inl ((cs 9), 10, .inr (.inr (.inr (.inr (fun _ => none)))))), (o, .inl (cL, 1, .inr (.inl (fun _ => 0))))] s.heap := hP
  have hl := lv_entry ([.ref (h 0), .int p0, .int p1, .int p2, .ref o]) (n := 6) (Nat.le_of_ble_eq_true rfl)
  rw [lg_entry_eq]
  generalize (lg_sl ([.ref (h 0), .int p0, .int p1, .int p2, .ref o]) ++ List.replicate (6 - (lg_sl ([.ref (h 0), .int p0, .int p1, .int p2, .ref o])).length) Slot.unset).toArray = ls at hl ⊢
  have hl : lv_has ls 6 [(0, .ref (h 0)), (1, .int p0), (2, .int p1), (3, .int p2), (4, .ref o)] := hl
  skip
  refine lv_aload hx hb dL_value_0 (lv_at hl 4 rfl) ?_
  refine lv_iconst (v := 0) hx hb dL_value_2 (by decide) ?_
  refine lv_aload_n hx hb dL_value_3 rfl (lv_at hl 0 rfl) ?_
  refine lv_iload_n hx hb dL_value_4 rfl (lv_at hl 1 rfl) ?_
  refine lv_iload_n hx hb dL_value_5 rfl (lv_at hl 2 rfl) ?_
  refine lv_iload_n hx hb dL_value_6 rfl (lv_at hl 3 rfl) ?_
  have hPc := hP.sub (ws' := [((h 0), .inr (11, [.ref (h 1), .ref (h 9), .int 0, .int 0, .ref (h 20), .ref (h 37), .int 0, .ref (h 38), .ref (h 42), .ref (h 43), .ref (h 44), .ref (h 45), .ref (h 46), .ref (h 47), .ref (h 48)])), ((h 1), .inr (8, [.ref (h 2), .int 0, .ref (h 3), .ref (h 4), .int 0, .ref (h 5), .int 0, .ref (h 6), .int 0, .ref (h 7), .int 0])), ((h 3), .inl ((cs 9), 10, .inr (.inr (.inr (.inr (fun _ => none))))))]) [0, 1, 2] rfl
  have hDc := hD.sub (ws' := [((h 0), .inr (11, [.ref (h 1), .ref (h 9), .int 0, .int 0, .ref (h 20), .ref (h 37), .int 0, .ref (h 38), .ref (h 42), .ref (h 43), .ref (h 44), .ref (h 45), .ref (h 46), .ref (h 47), .ref (h 48)])), ((h 1), .inr (8, [.ref (h 2), .int 0, .ref (h 3), .ref (h 4), .int 0, .ref (h 5), .int 0, .ref (h 6), .int 0, .ref (h 7), .int 0])), ((h 3), .inl ((cs 9), 10, .inr (.inr (.inr (.inr (fun _ => none))))))]) [0, 1, 2] (by decide) rfl
  have hKc := hK.sub (tys' := [((cs 9), .object RX9)]) [0] rfl
  have hFc := va_free (wc := [((h 0), .inr (11, [.ref (h 1), .ref (h 9), .int 0, .int 0, .ref (h 20), .ref (h 37), .int 0, .ref (h 38), .ref (h 42), .ref (h 43), .ref (h 44), .ref (h 45), .ref (h 46), .ref (h 47), .ref (h 48)])), ((h 1), .inr (8, [.ref (h 2), .int 0, .ref (h 3), .ref (h 4), .int 0, .ref (h 5), .int 0, .ref (h 6), .int 0, .ref (h 7), .int 0])), ((h 3), .inl ((cs 9), 10, .inr (.inr (.inr (.inr (fun _ => none))))))]) hD hS hA [0, 1, 2] rfl
  refine vx_calli (vx_runV (As := [.int p0, .int p1, .int p2]) (rest := [.int 0, .ref o]) ⟨hx, hb, hml, hown, ht⟩ (k_X11_value l hl0 _ D h cs p0 p1 p2) (cwV 3 ht (zG_V zw_752 zw_753 zw_754 zw_404 zw_755) rfl rfl rfl (by decide +kernel) ⟨Nat.le_of_ble_eq_true rfl, Nat.le_of_ble_eq_true rfl⟩) (zW_V (va_recv hK hP (ci := 11) (q0 := 0) rfl rfl) hEx hS hFc hPc hKc hDc) rfl rfl hl.1 rfl (lv_room (Nat.le_of_ble_eq_true rfl)) dL_value_7 ⟨Nat.le_of_ble_eq_true rfl, Nat.le_of_ble_eq_true rfl⟩) hS (fun q _ h => hFc q h) hFc (fun q _ h => hFc q h) (fun E ce q9 uu t H1 locs1 ht0 hvm hpx hB hz1 hk1 hS hcell hv hcl => ?_) (fun r_1 u_1 t H1 locs ht0 hvm hw_1 hB hz1 hk1 hS => ?_)
  · skip
    rcases hB with ⟨rfl, hb9⟩ | ⟨rfl, hb9⟩
    · skip
      obtain ⟨hP, hD⟩ := va_join (wr := [(o, .inl (cL, 1, .inr (.inl (fun _ => 0))))]) (w1 := []) hP hD [0, 1, 2] [3] rfl rfl (by decide) (by decide) hk1 hFc zP_nil zD_nil
      refine vx_catch (name := "java/lang/IndexOutOfBoundsException") hown [] ⟨0, 12, 15, 21⟩ [⟨0, 12, 19, 15⟩, ⟨0, 12, 23, 13⟩] hTab ((fun _ h => nomatch h)) (by decide) (by decide) (ht _ zw_597) (va_Nw.use rfl (hEx.1.2.2.2.1 "java/lang/IndexOutOfBoundsException" (by decide))) hcell hv hcl ?_
      generalize H1 = H at hP hS ⊢
      have hP : va_P D vwCl [(o, .inl (cL, 1, .inr (.inl (fun _ => 0))))] H := hP
      have hD : va_D A [(o, .inl (cL, 1, .inr (.inl (fun _ => 0))))] := hD
      refine W.widen (k := 2) (n := 12) (Nat.le_of_ble_eq_true rfl) (Nat.le_of_ble_eq_true rfl) ?_
      refine lv_astore (lv' := [(5, .ref q9), (0, .ref (h 0)), (1, .int p0), (2, .int p1), (3, .int p2), (4, .ref o)]) hx hb dL_value_15 hl (by decide) rfl (fun ls hl => ?_)
      refine lv_iconst (v := 1) hx hb dL_value_17 (by decide) ?_
      have hP9 := hP.sub (ws' := [(o, .inl (cL, 1, .inr (.inl (fun _ => 0))))]) [0] rfl
      have hD9 := hD.sub (ws' := [(o, .inl (cL, 1, .inr (.inl (fun _ => 0))))]) [0] (by decide) rfl
      have hK9 := hK.sub (tys' := []) [] rfl
      refine W.widen (k := 2) (n := 12) (Nat.le_of_ble_eq_true rfl) (Nat.le_of_ble_eq_true rfl) ?_
      exact W.iret (v := 1) hx hb hr (fun t ht0 hW => ⟨⟨1, 0, rfl, hb9, (fun _ => 0), rfl, zE_of hP9 hK9 hD9 ht0 hW⟩, hS.F ht0⟩) hS.2.2 dL_value_18
    · skip
      obtain ⟨hP, hD⟩ := va_join (wr := [(o, .inl (cL, 1, .inr (.inl (fun _ => 0))))]) (w1 := []) hP hD [0, 1, 2] [3] rfl rfl (by decide) (by decide) hk1 hFc zP_nil zD_nil
      refine vx_catch (name := "java/lang/IllegalStateException") hown [⟨0, 12, 15, 21⟩] ⟨0, 12, 19, 15⟩ [⟨0, 12, 23, 13⟩] hTab (List.forall_mem_cons.mpr ⟨.inr ⟨by decide, "java/lang/IndexOutOfBoundsException", ht _ zw_597, hNc ("java/lang/IllegalStateException", "java/lang/IndexOutOfBoundsException") (by decide)⟩, (fun _ h => nomatch h)⟩) (by decide) (by decide) (ht _ zw_610) (va_Nw.use rfl (hEx.1.2.2.2.1 "java/lang/IllegalStateException" (by decide))) hcell hv hcl ?_
      generalize H1 = H at hP hS ⊢
      have hP : va_P D vwCl [(o, .inl (cL, 1, .inr (.inl (fun _ => 0))))] H := hP
      have hD : va_D A [(o, .inl (cL, 1, .inr (.inl (fun _ => 0))))] := hD
      refine W.widen (k := 2) (n := 12) (Nat.le_of_ble_eq_true rfl) (Nat.le_of_ble_eq_true rfl) ?_
      refine lv_astore (lv' := [(5, .ref q9), (0, .ref (h 0)), (1, .int p0), (2, .int p1), (3, .int p2), (4, .ref o)]) hx hb dL_value_19 hl (by decide) rfl (fun ls hl => ?_)
      refine lv_iconst (v := 2) hx hb dL_value_21 (by decide) ?_
      have hP9 := hP.sub (ws' := [(o, .inl (cL, 1, .inr (.inl (fun _ => 0))))]) [0] rfl
      have hD9 := hD.sub (ws' := [(o, .inl (cL, 1, .inr (.inl (fun _ => 0))))]) [0] (by decide) rfl
      have hK9 := hK.sub (tys' := []) [] rfl
      refine W.widen (k := 2) (n := 12) (Nat.le_of_ble_eq_true rfl) (Nat.le_of_ble_eq_true rfl) ?_
      exact W.iret (v := 2) hx hb hr (fun t ht0 hW => ⟨⟨2, 0, rfl, hb9, (fun _ => 0), rfl, zE_of hP9 hK9 hD9 ht0 hW⟩, hS.F ht0⟩) hS.2.2 dL_value_22
  obtain ⟨hP1, hK1, hD1⟩ := hB
  rw [ht0] at hP1
  have hK1 := va_K.moved hvm.symm hK1
  obtain ⟨hP, hD⟩ := va_join (wr := [(o, .inl (cL, 1, .inr (.inl (fun _ => 0))))]) (w1 := []) hP hD [0, 1, 2] [3] rfl rfl (by decide) (by decide) hk1 hFc hP1 hD1
  generalize H1 = H at hP hS ⊢
  have hP : va_P D vwCl [(o, .inl (cL, 1, .inr (.inl (fun _ => 0))))] H := hP
  have hD : va_D A [(o, .inl (cL, 1, .inr (.inl (fun _ => 0))))] := hD
  refine W.widen (k := 2) (n := 12) (Nat.le_of_ble_eq_true rfl) (Nat.le_of_ble_eq_true rfl) ?_
  exfalso
  unfold zS_value at hw_1
  rcases hw_1 with ⟨h9, -⟩ | ⟨h9, -⟩
  · exact absurd h9 (by decide)
  · exact absurd h9 (by decide)
