abbrev cX12_keeps : ByteArray := prog_14_method_15_code
def yX12_keeps : MethodName := ⟨RX12, "keeps", "()V"⟩
theorem dX12_keeps_0 : decode cX12_keeps 0 = .ok (.aload_n 0, 1) := by decide +kernel
theorem dX12_keeps_1 : decode cX12_keeps 1 = .ok (.getfield 78, 3) := by decide +kernel
theorem dX12_keeps_4 : decode cX12_keeps 4 = .ok (.bipush 8, 2) := by decide +kernel
theorem dX12_keeps_6 : decode cX12_keeps 6 = .ok (.if_icmp .ne 56, 3) := by decide +kernel
theorem dX12_keeps_62 : decode cX12_keeps 62 = .ok (.aload_n 0, 1) := by decide +kernel
theorem dX12_keeps_63 : decode cX12_keeps 63 = .ok (.getfield 9, 3) := by decide +kernel
theorem dX12_keeps_66 : decode cX12_keeps 66 = .ok (.iconst 0, 1) := by decide +kernel
theorem dX12_keeps_67 : decode cX12_keeps 67 = .ok (.aload_n 0, 1) := by decide +kernel
theorem zw_94 : Cond.fieldLink RX12 15 RX12 "ahead" "[[I" ∈ zT := zT_of 1490 (by decide +kernel) (by decide +kernel)
theorem dX12_keeps_68 : decode cX12_keeps 68 = .ok (.getfield 15, 3) := by decide +kernel
theorem dX12_keeps_71 : decode cX12_keeps 71 = .ok (.aload_n 0, 1) := by decide +kernel
theorem dX12_keeps_72 : decode cX12_keeps 72 = .ok (.getfield 78, 3) := by decide +kernel
theorem dX12_keeps_75 : decode cX12_keeps 75 = .ok (.aaload, 1) := by decide +kernel
theorem dX12_keeps_76 : decode cX12_keeps 76 = .ok (.iconst 0, 1) := by decide +kernel
theorem dX12_keeps_77 : decode cX12_keeps 77 = .ok (.sipush 6792, 3) := by decide +kernel
theorem zw_95 : Cond.methodLink RX12 68 arraycopyName ∈ zT := zT_of 1587 (by decide +kernel) (by decide +kernel)
theorem zw_96 : Cond.native arraycopyName ∈ zT := zT_of 599 (by decide +kernel) (by decide +kernel)
theorem zw_97 : Cond.static arraycopyName ∈ zT := zT_of 598 (by decide +kernel) (by decide +kernel)
theorem zw_98 : Cond.initialized "java/lang/System" ∈ zT := zT_of 18 (by decide +kernel) (by decide +kernel)
theorem dX12_keeps_80 : decode cX12_keeps 80 = .ok (.invokestatic 68, 3) := by decide +kernel
theorem dX12_keeps_83 : decode cX12_keeps 83 = .ok (.aload_n 0, 1) := by decide +kernel
theorem dX12_keeps_84 : decode cX12_keeps 84 = .ok (.dup, 1) := by decide +kernel
theorem dX12_keeps_85 : decode cX12_keeps 85 = .ok (.getfield 78, 3) := by decide +kernel
theorem dX12_keeps_88 : decode cX12_keeps 88 = .ok (.iconst 1, 1) := by decide +kernel
theorem dX12_keeps_89 : decode cX12_keeps 89 = .ok (.iadd, 1) := by decide +kernel
theorem dX12_keeps_90 : decode cX12_keeps 90 = .ok (.putfield 78, 3) := by decide +kernel
theorem dX12_keeps_93 : decode cX12_keeps 93 = .ok (.return_, 1) := by decide +kernel
abbrev cX12_part_ : ByteArray := prog_14_method_56_code
def yX12_part_ : MethodName := ⟨RX12, "part", "(III)I"⟩
theorem dX12_part__0 : decode cX12_part_ 0 = .ok (.aload_n 0, 1) := by decide +kernel
theorem dX12_part__1 : decode cX12_part_ 1 = .ok (.iload_n 1, 1) := by decide +kernel
theorem dX12_part__2 : decode cX12_part_ 2 = .ok (.invokestatic 225, 3) := by decide +kernel
theorem dX12_part__5 : decode cX12_part_ 5 = .ok (.ifCond .eq 14, 3) := by decide +kernel
theorem dX12_part__8 : decode cX12_part_ 8 = .ok (.iload_n 3, 1) := by decide +kernel
theorem dX12_part__9 : decode cX12_part_ 9 = .ok (.invokestatic 225, 3) := by decide +kernel
theorem dX12_part__12 : decode cX12_part_ 12 = .ok (.ifCond .eq 7, 3) := by decide +kernel
theorem dX12_part__15 : decode cX12_part_ 15 = .ok (.iconst 1, 1) := by decide +kernel
theorem dX12_part__16 : decode cX12_part_ 16 = .ok (.goto 4, 3) := by decide +kernel
theorem dX12_part__20 : decode cX12_part_ 20 = .ok (.invokevirtual 215, 3) := by decide +kernel
theorem dX12_part__23 : decode cX12_part_ 23 = .ok (.ifCond .eq 5, 3) := by decide +kernel
theorem dX12_part__28 : decode cX12_part_ 28 = .ok (.aload_n 0, 1) := by decide +kernel
theorem dX12_part__29 : decode cX12_part_ 29 = .ok (.aload_n 0, 1) := by decide +kernel
theorem dX12_part__30 : decode cX12_part_ 30 = .ok (.iload_n 1, 1) := by decide +kernel
theorem dX12_part__31 : decode cX12_part_ 31 = .ok (.invokevirtual 222, 3) := by decide +kernel
theorem dX12_part__34 : decode cX12_part_ 34 = .ok (.ifCond .eq 23, 3) := by decide +kernel
theorem dX12_part__57 : decode cX12_part_ 57 = .ok (.iconst 1, 1) := by decide +kernel
theorem dX12_part__58 : decode cX12_part_ 58 = .ok (.goto 4, 3) := by decide +kernel
theorem dX12_part__62 : decode cX12_part_ 62 = .ok (.iconst 1, 1) := by decide +kernel
theorem dX12_part__63 : decode cX12_part_ 63 = .ok (.invokevirtual 56, 3) := by decide +kernel
theorem dX12_part__66 : decode cX12_part_ 66 = .ok (.ifCond .ne 16, 3) := by decide +kernel
theorem dX12_part__69 : decode cX12_part_ 69 = .ok (.aload_n 0, 1) := by decide +kernel
theorem dX12_part__70 : decode cX12_part_ 70 = .ok (.aload_n 0, 1) := by decide +kernel
theorem dX12_part__71 : decode cX12_part_ 71 = .ok (.iload_n 1, 1) := by decide +kernel
theorem dX12_part__72 : decode cX12_part_ 72 = .ok (.invokevirtual 222, 3) := by decide +kernel
theorem dX12_part__75 : decode cX12_part_ 75 = .ok (.iconst 2, 1) := by decide +kernel
theorem dX12_part__76 : decode cX12_part_ 76 = .ok (.invokevirtual 56, 3) := by decide +kernel
theorem dX12_part__79 : decode cX12_part_ 79 = .ok (.ifCond .eq 5, 3) := by decide +kernel
theorem dX12_part__82 : decode cX12_part_ 82 = .ok (.iconst 0, 1) := by decide +kernel
theorem dX12_part__83 : decode cX12_part_ 83 = .ok (.ireturn, 1) := by decide +kernel
theorem dX12_part__19 : decode cX12_part_ 19 = .ok (.iconst 0, 1) := by decide +kernel
theorem dX12_part__26 : decode cX12_part_ 26 = .ok (.iconst 0, 1) := by decide +kernel
theorem dX12_part__27 : decode cX12_part_ 27 = .ok (.ireturn, 1) := by decide +kernel
abbrev cX12_end : ByteArray := prog_14_method_68_code
def yX12_end : MethodName := ⟨RX12, "end", "(II)I"⟩
theorem dX12_end_0 : decode cX12_end 0 = .ok (.aload_n 0, 1) := by decide +kernel
theorem dX12_end_1 : decode cX12_end 1 = .ok (.iload_n 1, 1) := by decide +kernel
theorem dX12_end_2 : decode cX12_end 2 = .ok (.invokestatic 176, 3) := by decide +kernel
theorem dX12_end_5 : decode cX12_end 5 = .ok (.invokevirtual 215, 3) := by decide +kernel
theorem dX12_end_8 : decode cX12_end 8 = .ok (.ifCond .ne 35, 3) := by decide +kernel
theorem dX12_end_11 : decode cX12_end 11 = .ok (.aload_n 0, 1) := by decide +kernel
theorem dX12_end_12 : decode cX12_end 12 = .ok (.iload_n 2, 1) := by decide +kernel
theorem dX12_end_13 : decode cX12_end 13 = .ok (.invokestatic 265, 3) := by decide +kernel
theorem dX12_end_16 : decode cX12_end 16 = .ok (.iconst 2, 1) := by decide +kernel
theorem dX12_end_17 : decode cX12_end 17 = .ok (.invokevirtual 56, 3) := by decide +kernel
theorem dX12_end_20 : decode cX12_end 20 = .ok (.ifCond .ne 23, 3) := by decide +kernel
theorem dX12_end_23 : decode cX12_end 23 = .ok (.aload_n 0, 1) := by decide +kernel
theorem dX12_end_24 : decode cX12_end 24 = .ok (.aload_n 0, 1) := by decide +kernel
theorem dX12_end_25 : decode cX12_end 25 = .ok (.invokevirtual 135, 3) := by decide +kernel
theorem dX12_end_28 : decode cX12_end 28 = .ok (.ifCond .le 7, 3) := by decide +kernel
theorem dX12_end_35 : decode cX12_end 35 = .ok (.iconst 0, 1) := by decide +kernel
theorem dX12_end_36 : decode cX12_end 36 = .ok (.iconst 3, 1) := by decide +kernel
theorem dX12_end_37 : decode cX12_end 37 = .ok (.invokevirtual 56, 3) := by decide +kernel
theorem dX12_end_40 : decode cX12_end 40 = .ok (.ifCond .eq 5, 3) := by decide +kernel
theorem dX12_end_43 : decode cX12_end 43 = .ok (.iconst 0, 1) := by decide +kernel
theorem dX12_end_44 : decode cX12_end 44 = .ok (.ireturn, 1) := by decide +kernel
abbrev cX12_across : ByteArray := prog_14_method_73_code
def yX12_across : MethodName := ⟨RX12, "across", "(IIIZ)I"⟩
theorem dX12_across_0 : decode cX12_across 0 = .ok (.aload_n 0, 1) := by decide +kernel
theorem dX12_across_1 : decode cX12_across 1 = .ok (.iload_n 2, 1) := by decide +kernel
theorem dX12_across_2 : decode cX12_across 2 = .ok (.invokevirtual 116, 3) := by decide +kernel
theorem dX12_across_5 : decode cX12_across 5 = .ok (.istore 5, 2) := by decide +kernel
theorem dX12_across_7 : decode cX12_across 7 = .ok (.aload_n 0, 1) := by decide +kernel
theorem dX12_across_8 : decode cX12_across 8 = .ok (.iload_n 3, 1) := by decide +kernel
theorem zw_99 : Cond.methodLink RX12 119 yX12_atEquivalence ∈ zT := zT_of 1678 (by decide +kernel) (by decide +kernel)
theorem zw_100 : Cond.instanceMethod yX12_atEquivalence ∈ zT := zT_of 1680 (by decide +kernel) (by decide +kernel)
theorem zw_101 : Cond.selects RX12 yX12_atEquivalence yX12_atEquivalence ∈ zT := zT_ofS 55 (by decide +kernel) (by decide +kernel)
theorem zw_102 : Cond.code yX12_atEquivalence cX12_atEquivalence 3 (some .int) ∈ zT := zT_of 1681 (by decide +kernel) (by decide +kernel)
theorem dX12_across_9 : decode cX12_across 9 = .ok (.invokevirtual 119, 3) := by decide +kernel
theorem dX12_across_12 : decode cX12_across 12 = .ok (.istore 6, 2) := by decide +kernel
theorem dX12_across_14 : decode cX12_across 14 = .ok (.aload_n 0, 1) := by decide +kernel
theorem dX12_across_15 : decode cX12_across 15 = .ok (.iload_n 1, 1) := by decide +kernel
theorem dX12_across_16 : decode cX12_across 16 = .ok (.invokestatic 176, 3) := by decide +kernel
theorem dX12_across_19 : decode cX12_across 19 = .ok (.invokevirtual 215, 3) := by decide +kernel
theorem dX12_across_22 : decode cX12_across 22 = .ok (.ifCond .ne 28, 3) := by decide +kernel
theorem dX12_across_25 : decode cX12_across 25 = .ok (.aload_n 0, 1) := by decide +kernel
theorem dX12_across_26 : decode cX12_across 26 = .ok (.iload 5, 2) := by decide +kernel
theorem dX12_across_28 : decode cX12_across 28 = .ok (.iconst (-1), 1) := by decide +kernel
theorem dX12_across_29 : decode cX12_across 29 = .ok (.if_icmp .eq 13, 3) := by decide +kernel
theorem dX12_across_42 : decode cX12_across 42 = .ok (.iconst 0, 1) := by decide +kernel
theorem dX12_across_43 : decode cX12_across 43 = .ok (.iconst 2, 1) := by decide +kernel
theorem dX12_across_44 : decode cX12_across 44 = .ok (.invokevirtual 56, 3) := by decide +kernel
theorem dX12_across_47 : decode cX12_across 47 = .ok (.ifCond .eq 5, 3) := by decide +kernel
theorem dX12_across_50 : decode cX12_across 50 = .ok (.iconst 0, 1) := by decide +kernel
theorem dX12_across_51 : decode cX12_across 51 = .ok (.ireturn, 1) := by decide +kernel
abbrev cX12_needs : ByteArray := prog_14_method_120_code
def yX12_needs : MethodName := ⟨RX12, "needs", "(I)I"⟩
theorem dX12_needs_0 : decode cX12_needs 0 = .ok (.aload_n 0, 1) := by decide +kernel
theorem dX12_needs_1 : decode cX12_needs 1 = .ok (.iload_n 1, 1) := by decide +kernel
theorem dX12_needs_2 : decode cX12_needs 2 = .ok (.invokestatic 265, 3) := by decide +kernel
theorem dX12_needs_5 : decode cX12_needs 5 = .ok (.invokevirtual 215, 3) := by decide +kernel
theorem dX12_needs_8 : decode cX12_needs 8 = .ok (.ifCond .eq 5, 3) := by decide +kernel
theorem dX12_needs_13 : decode cX12_needs 13 = .ok (.iconst 0, 1) := by decide +kernel
theorem dX12_needs_14 : decode cX12_needs 14 = .ok (.istore_n 2, 1) := by decide +kernel
theorem dX12_needs_15 : decode cX12_needs 15 = .ok (.iconst 1, 1) := by decide +kernel
theorem dX12_needs_16 : decode cX12_needs 16 = .ok (.istore_n 3, 1) := by decide +kernel
theorem dX12_needs_17 : decode cX12_needs 17 = .ok (.iload_n 3, 1) := by decide +kernel
theorem dX12_needs_18 : decode cX12_needs 18 = .ok (.aload_n 0, 1) := by decide +kernel
theorem dX12_needs_19 : decode cX12_needs 19 = .ok (.iload_n 1, 1) := by decide +kernel
theorem dX12_needs_20 : decode cX12_needs 20 = .ok (.invokevirtual 202, 3) := by decide +kernel
theorem dX12_needs_23 : decode cX12_needs 23 = .ok (.if_icmp .ge 68, 3) := by decide +kernel
theorem dX12_needs_91 : decode cX12_needs 91 = .ok (.iload_n 2, 1) := by decide +kernel
theorem dX12_needs_92 : decode cX12_needs 92 = .ok (.ireturn, 1) := by decide +kernel
theorem dX12_needs_11 : decode cX12_needs 11 = .ok (.iconst 0, 1) := by decide +kernel
theorem dX12_needs_12 : decode cX12_needs 12 = .ok (.ireturn, 1) := by decide +kernel
abbrev cX12_restore : ByteArray := prog_14_method_91_code
def yX12_restore : MethodName := ⟨RX12, "restore", "(I)I"⟩
theorem dX12_restore_0 : decode cX12_restore 0 = .ok (.aload_n 0, 1) := by decide +kernel
theorem dX12_restore_1 : decode cX12_restore 1 = .ok (.iload_n 1, 1) := by decide +kernel
theorem dX12_restore_2 : decode cX12_restore 2 = .ok (.iconst 0, 1) := by decide +kernel
theorem dX12_restore_3 : decode cX12_restore 3 = .ok (.iconst 1, 1) := by decide +kernel
theorem dX12_restore_4 : decode cX12_restore 4 = .ok (.invokestatic 60, 3) := by decide +kernel
theorem dX12_restore_7 : decode cX12_restore 7 = .ok (.invokevirtual 215, 3) := by decide +kernel
theorem dX12_restore_10 : decode cX12_restore 10 = .ok (.ifCond .ne 17, 3) := by decide +kernel
theorem dX12_restore_13 : decode cX12_restore 13 = .ok (.aload_n 0, 1) := by decide +kernel
theorem dX12_restore_14 : decode cX12_restore 14 = .ok (.aload_n 0, 1) := by decide +kernel
theorem zw_103 : Cond.fieldLink RX12 21 RX12 "isKept" "[Z" ∈ zT := zT_of 1492 (by decide +kernel) (by decide +kernel)
theorem dX12_restore_15 : decode cX12_restore 15 = .ok (.getfield 21, 3) := by decide +kernel
theorem dX12_restore_18 : decode cX12_restore 18 = .ok (.iload_n 1, 1) := by decide +kernel
theorem dX12_restore_19 : decode cX12_restore 19 = .ok (.baload, 1) := by decide +kernel
theorem dX12_restore_20 : decode cX12_restore 20 = .ok (.iconst 2, 1) := by decide +kernel
theorem dX12_restore_21 : decode cX12_restore 21 = .ok (.invokevirtual 56, 3) := by decide +kernel
theorem dX12_restore_24 : decode cX12_restore 24 = .ok (.ifCond .eq 5, 3) := by decide +kernel
theorem dX12_restore_27 : decode cX12_restore 27 = .ok (.iconst 0, 1) := by decide +kernel
theorem dX12_restore_28 : decode cX12_restore 28 = .ok (.ireturn, 1) := by decide +kernel
abbrev cX12_sign : ByteArray := prog_14_method_51_code
def yX12_sign : MethodName := ⟨RX12, "sign", "(III)I"⟩
theorem dX12_sign_0 : decode cX12_sign 0 = .ok (.iload_n 1, 1) := by decide +kernel
theorem dX12_sign_1 : decode cX12_sign 1 = .ok (.iconst 0, 1) := by decide +kernel
theorem dX12_sign_2 : decode cX12_sign 2 = .ok (.iconst 2, 1) := by decide +kernel
theorem dX12_sign_3 : decode cX12_sign 3 = .ok (.invokestatic 60, 3) := by decide +kernel
theorem dX12_sign_6 : decode cX12_sign 6 = .ok (.ifCond .eq 35, 3) := by decide +kernel
theorem dX12_sign_9 : decode cX12_sign 9 = .ok (.iload_n 1, 1) := by decide +kernel
theorem dX12_sign_10 : decode cX12_sign 10 = .ok (.iconst 1, 1) := by decide +kernel
theorem dX12_sign_11 : decode cX12_sign 11 = .ok (.if_icmp .lt 12, 3) := by decide +kernel
theorem dX12_sign_23 : decode cX12_sign 23 = .ok (.iload_n 1, 1) := by decide +kernel
theorem dX12_sign_24 : decode cX12_sign 24 = .ok (.iconst 2, 1) := by decide +kernel
theorem dX12_sign_25 : decode cX12_sign 25 = .ok (.if_icmp .lt 12, 3) := by decide +kernel
theorem dX12_sign_37 : decode cX12_sign 37 = .ok (.iconst 1, 1) := by decide +kernel
theorem dX12_sign_38 : decode cX12_sign 38 = .ok (.goto 4, 3) := by decide +kernel
theorem dX12_sign_42 : decode cX12_sign 42 = .ok (.istore 4, 2) := by decide +kernel
theorem dX12_sign_44 : decode cX12_sign 44 = .ok (.aload_n 0, 1) := by decide +kernel
theorem dX12_sign_45 : decode cX12_sign 45 = .ok (.iload 4, 2) := by decide +kernel
theorem dX12_sign_47 : decode cX12_sign 47 = .ok (.invokevirtual 215, 3) := by decide +kernel
theorem dX12_sign_50 : decode cX12_sign 50 = .ok (.ifCond .ne 26, 3) := by decide +kernel
theorem dX12_sign_53 : decode cX12_sign 53 = .ok (.aload_n 0, 1) := by decide +kernel
theorem dX12_sign_54 : decode cX12_sign 54 = .ok (.aload_n 0, 1) := by decide +kernel
theorem dX12_sign_55 : decode cX12_sign 55 = .ok (.getfield 9, 3) := by decide +kernel
theorem dX12_sign_58 : decode cX12_sign 58 = .ok (.iconst 0, 1) := by decide +kernel
theorem dX12_sign_59 : decode cX12_sign 59 = .ok (.iaload, 1) := by decide +kernel
theorem dX12_sign_60 : decode cX12_sign 60 = .ok (.iconst 4, 1) := by decide +kernel
theorem dX12_sign_61 : decode cX12_sign 61 = .ok (.if_icmp .ge 7, 3) := by decide +kernel
theorem dX12_sign_64 : decode cX12_sign 64 = .ok (.iconst 1, 1) := by decide +kernel
theorem dX12_sign_65 : decode cX12_sign 65 = .ok (.goto 4, 3) := by decide +kernel
theorem dX12_sign_69 : decode cX12_sign 69 = .ok (.iconst 2, 1) := by decide +kernel
theorem dX12_sign_70 : decode cX12_sign 70 = .ok (.invokevirtual 56, 3) := by decide +kernel
theorem dX12_sign_73 : decode cX12_sign 73 = .ok (.ifCond .eq 5, 3) := by decide +kernel
theorem dX12_sign_78 : decode cX12_sign 78 = .ok (.aload_n 0, 1) := by decide +kernel
theorem zw_104 : Cond.methodLink RX12 219 yX12_keeps ∈ zT := zT_of 1583 (by decide +kernel) (by decide +kernel)
theorem zw_105 : Cond.instanceMethod yX12_keeps ∈ zT := zT_of 1585 (by decide +kernel) (by decide +kernel)
theorem zw_106 : Cond.selects RX12 yX12_keeps yX12_keeps ∈ zT := zT_ofS 38 (by decide +kernel) (by decide +kernel)
theorem zw_107 : Cond.code yX12_keeps cX12_keeps 3 none ∈ zT := zT_of 1586 (by decide +kernel) (by decide +kernel)
theorem dX12_sign_79 : decode cX12_sign 79 = .ok (.invokevirtual 219, 3) := by decide +kernel
theorem dX12_sign_82 : decode cX12_sign 82 = .ok (.aload_n 0, 1) := by decide +kernel
theorem dX12_sign_83 : decode cX12_sign 83 = .ok (.getfield 9, 3) := by decide +kernel
theorem dX12_sign_86 : decode cX12_sign 86 = .ok (.iconst 1, 1) := by decide +kernel
theorem dX12_sign_87 : decode cX12_sign 87 = .ok (.iconst 3, 1) := by decide +kernel
theorem dX12_sign_88 : decode cX12_sign 88 = .ok (.aload_n 0, 1) := by decide +kernel
theorem dX12_sign_89 : decode cX12_sign 89 = .ok (.getfield 9, 3) := by decide +kernel
theorem dX12_sign_92 : decode cX12_sign 92 = .ok (.iconst 0, 1) := by decide +kernel
theorem dX12_sign_93 : decode cX12_sign 93 = .ok (.iaload, 1) := by decide +kernel
theorem dX12_sign_94 : decode cX12_sign 94 = .ok (.imul, 1) := by decide +kernel
theorem dX12_sign_95 : decode cX12_sign 95 = .ok (.iadd, 1) := by decide +kernel
theorem dX12_sign_96 : decode cX12_sign 96 = .ok (.iload_n 1, 1) := by decide +kernel
theorem dX12_sign_97 : decode cX12_sign 97 = .ok (.iastore, 1) := by decide +kernel
theorem dX12_sign_98 : decode cX12_sign 98 = .ok (.aload_n 0, 1) := by decide +kernel
theorem dX12_sign_99 : decode cX12_sign 99 = .ok (.getfield 9, 3) := by decide +kernel
theorem dX12_sign_102 : decode cX12_sign 102 = .ok (.iconst 1, 1) := by decide +kernel
theorem dX12_sign_103 : decode cX12_sign 103 = .ok (.iconst 3, 1) := by decide +kernel
theorem dX12_sign_104 : decode cX12_sign 104 = .ok (.aload_n 0, 1) := by decide +kernel
theorem dX12_sign_105 : decode cX12_sign 105 = .ok (.getfield 9, 3) := by decide +kernel
theorem dX12_sign_108 : decode cX12_sign 108 = .ok (.iconst 0, 1) := by decide +kernel
theorem dX12_sign_109 : decode cX12_sign 109 = .ok (.iaload, 1) := by decide +kernel
theorem dX12_sign_110 : decode cX12_sign 110 = .ok (.imul, 1) := by decide +kernel
theorem dX12_sign_111 : decode cX12_sign 111 = .ok (.iadd, 1) := by decide +kernel
theorem dX12_sign_112 : decode cX12_sign 112 = .ok (.iconst 1, 1) := by decide +kernel
theorem dX12_sign_113 : decode cX12_sign 113 = .ok (.iadd, 1) := by decide +kernel
theorem dX12_sign_114 : decode cX12_sign 114 = .ok (.iload_n 2, 1) := by decide +kernel
theorem dX12_sign_115 : decode cX12_sign 115 = .ok (.iastore, 1) := by decide +kernel
theorem dX12_sign_116 : decode cX12_sign 116 = .ok (.aload_n 0, 1) := by decide +kernel
theorem dX12_sign_117 : decode cX12_sign 117 = .ok (.getfield 9, 3) := by decide +kernel
theorem dX12_sign_120 : decode cX12_sign 120 = .ok (.iconst 1, 1) := by decide +kernel
theorem dX12_sign_121 : decode cX12_sign 121 = .ok (.iconst 3, 1) := by decide +kernel
theorem dX12_sign_122 : decode cX12_sign 122 = .ok (.aload_n 0, 1) := by decide +kernel
theorem dX12_sign_123 : decode cX12_sign 123 = .ok (.getfield 9, 3) := by decide +kernel
theorem dX12_sign_126 : decode cX12_sign 126 = .ok (.iconst 0, 1) := by decide +kernel
theorem dX12_sign_127 : decode cX12_sign 127 = .ok (.iaload, 1) := by decide +kernel
theorem dX12_sign_128 : decode cX12_sign 128 = .ok (.imul, 1) := by decide +kernel
theorem dX12_sign_129 : decode cX12_sign 129 = .ok (.iadd, 1) := by decide +kernel
theorem dX12_sign_130 : decode cX12_sign 130 = .ok (.iconst 2, 1) := by decide +kernel
theorem dX12_sign_131 : decode cX12_sign 131 = .ok (.iadd, 1) := by decide +kernel
theorem dX12_sign_132 : decode cX12_sign 132 = .ok (.iload_n 3, 1) := by decide +kernel
theorem dX12_sign_133 : decode cX12_sign 133 = .ok (.iastore, 1) := by decide +kernel
theorem dX12_sign_134 : decode cX12_sign 134 = .ok (.aload_n 0, 1) := by decide +kernel
theorem dX12_sign_135 : decode cX12_sign 135 = .ok (.getfield 9, 3) := by decide +kernel
theorem dX12_sign_138 : decode cX12_sign 138 = .ok (.iconst 0, 1) := by decide +kernel
theorem dX12_sign_139 : decode cX12_sign 139 = .ok (.dup2, 1) := by decide +kernel
theorem dX12_sign_140 : decode cX12_sign 140 = .ok (.iaload, 1) := by decide +kernel
theorem dX12_sign_141 : decode cX12_sign 141 = .ok (.iconst 1, 1) := by decide +kernel
theorem dX12_sign_142 : decode cX12_sign 142 = .ok (.iadd, 1) := by decide +kernel
theorem dX12_sign_143 : decode cX12_sign 143 = .ok (.iastore, 1) := by decide +kernel
theorem dX12_sign_144 : decode cX12_sign 144 = .ok (.aload_n 0, 1) := by decide +kernel
theorem dX12_sign_145 : decode cX12_sign 145 = .ok (.getfield 9, 3) := by decide +kernel
theorem dX12_sign_148 : decode cX12_sign 148 = .ok (.iconst 0, 1) := by decide +kernel
theorem dX12_sign_149 : decode cX12_sign 149 = .ok (.iaload, 1) := by decide +kernel
theorem dX12_sign_150 : decode cX12_sign 150 = .ok (.iconst 1, 1) := by decide +kernel
theorem dX12_sign_151 : decode cX12_sign 151 = .ok (.isub, 1) := by decide +kernel
theorem dX12_sign_152 : decode cX12_sign 152 = .ok (.ireturn, 1) := by decide +kernel
theorem dX12_sign_28 : decode cX12_sign 28 = .ok (.iload_n 3, 1) := by decide +kernel
theorem dX12_sign_29 : decode cX12_sign 29 = .ok (.iconst 0, 1) := by decide +kernel
theorem dX12_sign_30 : decode cX12_sign 30 = .ok (.iconst 2, 1) := by decide +kernel
theorem dX12_sign_31 : decode cX12_sign 31 = .ok (.invokestatic 60, 3) := by decide +kernel
theorem dX12_sign_34 : decode cX12_sign 34 = .ok (.ifCond .eq 7, 3) := by decide +kernel
theorem dX12_sign_41 : decode cX12_sign 41 = .ok (.iconst 0, 1) := by decide +kernel
theorem dX12_sign_76 : decode cX12_sign 76 = .ok (.iconst 0, 1) := by decide +kernel
theorem dX12_sign_77 : decode cX12_sign 77 = .ok (.ireturn, 1) := by decide +kernel
theorem dX12_sign_14 : decode cX12_sign 14 = .ok (.iload_n 2, 1) := by decide +kernel
theorem dX12_sign_15 : decode cX12_sign 15 = .ok (.iconst 0, 1) := by decide +kernel
theorem dX12_sign_16 : decode cX12_sign 16 = .ok (.iconst 2, 1) := by decide +kernel
theorem dX12_sign_17 : decode cX12_sign 17 = .ok (.invokestatic 60, 3) := by decide +kernel
theorem dX12_sign_20 : decode cX12_sign 20 = .ok (.ifCond .eq 21, 3) := by decide +kernel
abbrev cX12_turn : ByteArray := prog_14_method_78_code
def yX12_turn : MethodName := ⟨RX12, "turn", "(I)I"⟩
theorem dX12_turn_0 : decode cX12_turn 0 = .ok (.aload_n 0, 1) := by decide +kernel
theorem dX12_turn_1 : decode cX12_turn 1 = .ok (.iload_n 1, 1) := by decide +kernel
theorem dX12_turn_2 : decode cX12_turn 2 = .ok (.invokestatic 265, 3) := by decide +kernel
theorem dX12_turn_5 : decode cX12_turn 5 = .ok (.invokevirtual 215, 3) := by decide +kernel
theorem dX12_turn_8 : decode cX12_turn 8 = .ok (.ifCond .eq 5, 3) := by decide +kernel
theorem dX12_turn_13 : decode cX12_turn 13 = .ok (.aload_n 0, 1) := by decide +kernel
theorem dX12_turn_14 : decode cX12_turn 14 = .ok (.invokevirtual 219, 3) := by decide +kernel
theorem dX12_turn_17 : decode cX12_turn 17 = .ok (.aload_n 0, 1) := by decide +kernel
theorem dX12_turn_18 : decode cX12_turn 18 = .ok (.iload_n 1, 1) := by decide +kernel
theorem dX12_turn_19 : decode cX12_turn 19 = .ok (.invokevirtual 202, 3) := by decide +kernel
theorem dX12_turn_22 : decode cX12_turn 22 = .ok (.istore_n 2, 1) := by decide +kernel
theorem dX12_turn_23 : decode cX12_turn 23 = .ok (.bipush 12, 2) := by decide +kernel
theorem zw_108 : Cond.arrayClass .int ∈ zT := zT_of 70 (by decide +kernel) (by decide +kernel)
theorem dX12_turn_25 : decode cX12_turn 25 = .ok (.newarray .int, 2) := by decide +kernel
theorem dX12_turn_27 : decode cX12_turn 27 = .ok (.astore_n 3, 1) := by decide +kernel
theorem dX12_turn_28 : decode cX12_turn 28 = .ok (.bipush 12, 2) := by decide +kernel
theorem zw_109 : Cond.classLink RX12 291 "[I" ∈ zT := zT_of 1878 (by decide +kernel) (by decide +kernel)
theorem dX12_turn_30 : decode cX12_turn 30 = .ok (.anewarray 291, 3) := by decide +kernel
theorem dX12_turn_33 : decode cX12_turn 33 = .ok (.astore 4, 2) := by decide +kernel
theorem dX12_turn_35 : decode cX12_turn 35 = .ok (.iconst 0, 1) := by decide +kernel
theorem dX12_turn_36 : decode cX12_turn 36 = .ok (.istore 5, 2) := by decide +kernel
theorem dX12_turn_38 : decode cX12_turn 38 = .ok (.iload 5, 2) := by decide +kernel
theorem dX12_turn_40 : decode cX12_turn 40 = .ok (.iload_n 2, 1) := by decide +kernel
theorem dX12_turn_41 : decode cX12_turn 41 = .ok (.if_icmp .ge 47, 3) := by decide +kernel
theorem dX12_turn_88 : decode cX12_turn 88 = .ok (.aload_n 0, 1) := by decide +kernel
theorem dX12_turn_89 : decode cX12_turn 89 = .ok (.getfield 9, 3) := by decide +kernel
theorem dX12_turn_92 : decode cX12_turn 92 = .ok (.aload_n 0, 1) := by decide +kernel
theorem dX12_turn_93 : decode cX12_turn 93 = .ok (.iload_n 1, 1) := by decide +kernel
theorem dX12_turn_94 : decode cX12_turn 94 = .ok (.invokevirtual 188, 3) := by decide +kernel
theorem dX12_turn_97 : decode cX12_turn 97 = .ok (.iconst 0, 1) := by decide +kernel
theorem dX12_turn_98 : decode cX12_turn 98 = .ok (.iastore, 1) := by decide +kernel
theorem dX12_turn_99 : decode cX12_turn 99 = .ok (.iconst 0, 1) := by decide +kernel
theorem dX12_turn_100 : decode cX12_turn 100 = .ok (.istore 5, 2) := by decide +kernel
theorem dX12_turn_102 : decode cX12_turn 102 = .ok (.iload 5, 2) := by decide +kernel
theorem dX12_turn_104 : decode cX12_turn 104 = .ok (.iload_n 2, 1) := by decide +kernel
theorem dX12_turn_105 : decode cX12_turn 105 = .ok (.if_icmp .ge 23, 3) := by decide +kernel
theorem dX12_turn_128 : decode cX12_turn 128 = .ok (.iload_n 2, 1) := by decide +kernel
theorem dX12_turn_129 : decode cX12_turn 129 = .ok (.ireturn, 1) := by decide +kernel
theorem dX12_turn_11 : decode cX12_turn 11 = .ok (.iconst 0, 1) := by decide +kernel
theorem dX12_turn_12 : decode cX12_turn 12 = .ok (.ireturn, 1) := by decide +kernel
section ZRW
variable {p : Program} {l : Launch} {e : Env} {R : Room} {s : State} {m : MethodId} {args : Array Value} {below : List Frame} {meth : Method} {c : Code} {H : Heap} {locs : List Loc} {cells slots : Nat} {Q : State → Prop}
variable {cc : ByteArray} {pc : Nat} {ls : Array Slot} {rest : List Value} {D : va_G} {cl : List vw_C} {A : Nat → Prop} {a : Nat} {tys : List (ClassId × FieldType)} {ws : va_W} {H0 : Heap}
/-- an array out of an array of arrays -/
theorem za_aldA (hexec : p.tables.exec = Jvm.exec) (hb : c.code = cc) (hK : va_K D cl tys s) (hP : va_P D cl ws H) (q0 t0 : Nat) {cA : ClassId} {t : FieldType} {n : Nat} {f : Nat → Option Nat} (ha : ws[q0]? = some (a, .inl (cA, n, .inr (.inr (.inr (.inr f)))))) (ht : tys[t0]? = some (cA, .array t)) {i : Int32} (hin : vp_in i n) (hdg : decode cc pc = .ok (.aaload, 1))
    (kk : W p l e R s m args below meth c H locs cells slots Q (F0 m (pc + 1) ls (va_rf (f i.toNatClampNeg) :: rest))) : W p l e R s m args below meth c H locs cells slots Q (F0 m pc ls (.int i :: .ref a :: rest)) := by
  have hlt : i.toNatClampNeg < n := Nat.not_le.mp fun q => hin (Or.inr q)
  exact W.aald (v := va_rf (f i.toNatClampNeg)) (ty := .array t) hexec hb (hP q0 _ ha) ((hK.2 t0 _ ht).1 n (fun j => va_rf (f j))) rfl (fun q => by cases q) (by show ¬ (i < 0 ∨ (arrV _ _ _).slots.size ≤ _); rw [arrV_size]; exact hin) (by show (arrV _ _ _).slots[_]? = _; rw [arrV_read _ _ hlt]) rfl rfl hdg kk
/-- a new array of arrays that nobody looks into -/
theorem za_anewA (hexec : p.tables.exec = Jvm.exec) (hb : c.code = cc) {own : String} {index : Nat} {t : FieldType} (hown : s.vm.findClass own = some m.cls) (hclink : (Cond.classLink own index (FieldType.array t).toString).before args s = true) (hover : (Cond.arrayOver (.array t)).before args s = true) (hP : va_P D cl ws H) (hS : va_S A H0 H locs)
    {n : Int32} {N' : Nat} (hn : ¬ n < 0) (hN : n.toNatClampNeg = N') (hbytes : N' * 4 ≤ 536870912) (hcells : cells + 1 ≤ R.cells) (hslots : slots + N' ≤ R.slots) (hdg : decode cc pc = .ok (.anewarray index, 3))
    (kk : ∀ (q : Nat) (H1 : Heap), va_P D cl ws H1 → va_S A H0 H1 locs → W p l e R s m args below meth c H1 locs (cells + 1) (slots + N') Q (F0 m (pc + 3) ls (.ref q :: rest))) : W p l e R s m args below meth c H locs cells slots Q (F0 m pc ls (.int n :: rest)) := by
  subst hN
  refine W.anewA hexec hb hown hclink hover rfl hdg rfl hn hbytes hcells hslots fun cA kA comp f1 f2 f3 f4 => ?_
  generalize hH1 : H.push ({ cls := cA, slots := Array.replicate n.toNatClampNeg .null, vm := .none } : Cell) = H1
  have z1 : H1.size = H.size + 1 := by rw [← hH1, Array.size_push]
  have o1 : ∀ q : Nat, q < H.size → H1[q]? = H[q]? := fun q hq => by rw [← hH1, Array.getElem?_push, if_neg (Nat.ne_of_lt hq)]
  exact kk H.size H1 (hP.kept fun k x hx => o1 x.1 ((hP k x hx).lt)) ⟨Nat.le_trans hS.1 (by omega), fun x h1 h2 => (o1 x (Nat.lt_of_lt_of_le h1 hS.1)).trans (hS.2.1 x h1 h2), hS.2.2⟩
end ZRW
theorem zinc {x : Int32} (h : x.toInt < 2147483647) : (x + 1).toInt = x.toInt + 1 := by
  have h2 := x.le_toInt
  rw [Int32.toInt_add]
  show Int.bmod (x.toInt + 1) (2 ^ 32) = _
  rw [Int.bmod_def]
  split <;> omega
theorem zreg_in1 {k : Int32} (h0 : 0 ≤ k.toInt) (h9 : k.toInt ≤ 9) : vp_in (13 + 41 * k + 1) 6792 := by
  obtain ⟨j, hj, rfl⟩ := vp_in_of (n := 10) (vp_in_iff.mpr ⟨h0, by omega⟩) (by decide)
  have e : (13 : Int32) + 41 * nI j + 1 = nI (13 + 41 * j + 1) := by
    show nI 13 + nI 41 * nI j + 1 = _
    rw [pk_mul, nI_add, nI_1]
  rw [e]
  exact vp_in_nI (by omega) (by decide)
/-- the tables' word on arrays of arrays, said of a state alone -/
def va_AOA (t : FieldType) (U : State) : Prop := (Cond.arrayOver (.array t)).before #[] U = true
theorem va_AOA.moved {t : FieldType} {u U : State} (hvm : u.vm.Alike U.vm) (h : va_AOA t u) : va_AOA t U := by
  obtain ⟨comp, c, k, h1, h2, h3, h4, h5⟩ := arrayOverA_spec h
  obtain ⟨k', hk', he⟩ := hvm.2.2 _ _ h3
  have hbq : U.vm.bare = u.vm.bare := by first | exact hvm.bare_eq | exact hvm.bare_eq.symm
  have hi := (va_idx_bare U.vm comp).symm.trans ((congrArg (fun v : Vm => v.classes.findIdx? fun (x : Class) => match x.kind with | .array component _ => component == comp | _ => false) hbq).trans ((va_idx_bare u.vm comp).trans h2))
  have hkind : k'.kind = .array comp (.array t) := by rw [he]; exact h4
  have f1 : U.vm.findClass (FieldType.array t).toString = some comp := by rw [hvm.findClass]; exact h1
  have f2 : U.vm.findClass ("[" ++ (FieldType.array t).toString) = some c := by rw [hvm.findClass]; exact h5
  unfold va_AOA Cond.before Cond.holds
  simp only [Cond.value]
  rw [f1, Option.bind_some]
  refine (congrArg (fun o : Option Nat => (o.bind (fun c => (U.vm.classes[c]?).map fun (k : Class) => match k.kind with | .array _ ty => decide (ty = FieldType.array t) && decide (U.vm.findClass ("[" ++ (FieldType.array t).toString) = some c) | _ => false) == some true)) hi).trans ?_
  simp [hk', hkind, f2]
/-- a world, and something of the machine's tables besides -/
def zX (X : State → Prop) (D : va_G) (ws : va_W) (tys : List (ClassId × FieldType)) (sz : Nat) : State → Prop := fun U => X U ∧ zM D ws tys sz U
theorem zX_fb {X : State → Prop} (hX : ∀ u U : State, u.vm.Alike U.vm → X u → X U) (av : List Value) (D : va_G) (ws : va_W) (tys : List (ClassId × FieldType)) (sz : Nat) : FrameBlind (va_Pc av (zX X D ws tys sz)) := fun a U g mk q => by
  obtain ⟨q0, qX, q1, qP, qK, qD⟩ := q
  exact ⟨q0, hX U (U.calling g mk a) (Vm.Alike.refl U.vm) qX, q1, qP, va_K.moved (u := U) (U := U.calling g mk a) (Vm.Alike.refl U.vm) qK, qD⟩
theorem zX_S {X : State → Prop} (hX : ∀ u U : State, u.vm.Alike U.vm → X u → X U) {s : State} {H : Heap} {As : List Value} {D : va_G} {ws : va_W} {tys : List (ClassId × FieldType)} {A : Nat → Prop} (hx : X s) (hP : va_P D vwCl ws H) (hK : va_K D vwCl tys s) (hD : va_D A ws) : PreS s H (va_Pc As (zX X D ws tys H.size)) As := ⟨zX_fb hX _ _ _ _ _, fun U hU hW => ⟨rfl, hX s U hW.alike hx, by rw [hU], by rw [hU]; exact hP, va_K.moved hW.alike hK, hD.weaken (fun _ _ _ _ => trivial)⟩⟩
theorem zX_I {X : State → Prop} (hX : ∀ u U : State, u.vm.Alike U.vm → X u → X U) {s : State} {H : Heap} {b : Addr} {As : List Value} {D : va_G} {ws : va_W} {tys : List (ClassId × FieldType)} {A : Nat → Prop} (hx : X s) (hP : va_P D vwCl ws H) (hK : va_K D vwCl tys s) (hD : va_D A ws) : PreS s H (va_Pc (.ref b :: As) (zX X D ws tys H.size)) (.ref b :: As) := zX_S hX hx hP hK hD
theorem zX_V {X : State → Prop} (hX : ∀ u U : State, u.vm.Alike U.vm → X u → X U) {s : State} {H : Heap} {C : String} {b : Addr} {As : List Value} {D : va_G} {ws : va_W} {tys : List (ClassId × FieldType)} {A : Nat → Prop} (hr : ∃ cellB : Cell, H[b]? = some cellB ∧ cellB.vm.isStatics = false ∧ s.vm.findClass C = some cellB.cls) (hx : X s) (hP : va_P D vwCl ws H) (hK : va_K D vwCl tys s) (hD : va_D A ws) : PreV s H C b (va_Pc (.ref b :: As) (zX X D ws tys H.size)) As := ⟨zX_fb hX _ _ _ _ _, hr, fun U hU hW => ⟨rfl, hX s U hW.alike hx, by rw [hU], by rw [hU]; exact hP, va_K.moved hW.alike hK, hD.weaken (fun _ _ _ _ => trivial)⟩⟩

set_option maxHeartbeats 4000000 in
set_option maxRecDepth 100000 in
theorem k_X12_keeps (l : Launch) (sz : Nat) (D : va_G) (a : Nat → Nat) (i : Nat → Int32) (cI cJ : ClassId) (f g : Nat → Int32) (fa : Nat → Option Nat) (h5 : i 5 = 0) (ha : fa 0 = some (a 30)) : Met l yX12_keeps (.code yX12_keeps cX12_keeps 3 none :: zT) ({ frames := 1, cells := 0, slots := 0, locals := 64 }) (va_Pc [.ref (a 0)] (zM D [((a 0), .inr (12, zMo a i)), ((a 1), .inl (cI, 6792, .inl f)), ((a 2), .inl (cJ, 8, .inr (.inr (.inr (.inr fa))))), ((a 30), .inl (cI, 6792, .inl g))] [(cI, .int), (cJ, .array .int)] sz)) (va_Qv (fun (u : Nat → Int32) => u = upd i 5 1) (fun u t => zE D [(a 0, .inr (12, zMo a u)), (a 1, .inl (cI, 6792, .inl f))] [] (va_A [((a 0), .inr (12, zMo a i)), ((a 1), .inl (cI, 6792, .inl f)), ((a 2), .inl (cJ, 8, .inr (.inr (.inr (.inr fa))))), ((a 30), .inl (cI, 6792, .inl g))] sz) t) (va_A [((a 0), .inr (12, zMo a i)), ((a 1), .inl (cI, 6792, .inl f)), ((a 2), .inl (cJ, 8, .inr (.inr (.inr (.inr fa))))), ((a 30), .inl (cI, 6792, .inl g))] sz)) 0 0 (va_A [((a 0), .inr (12, zMo a i)), ((a 1), .inl (cI, 6792, .inl f)), ((a 2), .inl (cJ, 8, .inr (.inr (.inr (.inr fa))))), ((a 30), .inl (cI, 6792, .inl g))] sz) := by
  refine Met.ofW (cc := cX12_keeps) (maxL := 3) (ret := none) (by decide) rfl ?_
  intro p e s m args below meth c s₁ B hml hv
  obtain ⟨rfl, hsz, hP, hK, hD0⟩ := hv
  have hx := B.exec
  have hb := B.bytes
  have hr := B.returns
  have hts := atoms_spec (ws := (.code yX12_keeps cX12_keeps 3 none :: zT)) B.pre
  have ht : ∀ w ∈ zT, w.before _ s = true := fun w h => hts w (List.mem_cons_of_mem _ h)
  have hown : s.vm.findClass RX12 = some m.cls := findClass_of_methodNamed B.named
  have hlocks := B.notSynchronized
  subst hsz
  have hD := hD0.self (sz := s.heap.size)
  generalize hAe : va_A [((a 0), .inr (12, zMo a i)), ((a 1), .inl (cI, 6792, .inl f)), ((a 2), .inl (cJ, 8, .inr (.inr (.inr (.inr fa))))), ((a 30), .inl (cI, 6792, .inl g))] s.heap.size = A at hD ⊢
  have hA : ∀ q : Nat, s.heap.size ≤ q → A q := fun q h => by rw [← hAe]; exact Or.inr h
  have hS : va_S A s.heap s.heap [] := va_S.rf
  have hP : va_P D vwCl [((a 0), .inr (12, zMo a i)), ((a 1), .inl (cI, 6792, .inl f)), ((a 2), .inl (cJ, 8, .inr (.inr (.inr (.inr fa))))), ((a 30), .inl (cI, 6792, .inl g))] s.heap := hP
  have hl := lv_entry ([.ref (a 0)]) (n := 3) (Nat.le_of_ble_eq_true rfl)
  rw [lg_entry_eq]
  generalize (lg_sl ([.ref (a 0)]) ++ List.replicate (3 - (lg_sl ([.ref (a 0)])).length) Slot.unset).toArray = ls at hl ⊢
  have hl : lv_has ls 3 [(0, .ref (a 0))] := hl
  skip
  refine lv_aload_n hx hb dX12_keeps_0 rfl (lv_at hl 0 rfl) ?_
  refine va_get (D := D) (ci := 12) (v := .int 0) (C := RX12) (T := TX12) (N := 25) hx hb ht zinX12 hown hK hP 0 rfl rfl 5 (by decide) (ht _ zw_84) (fun _ h9 => h9) (by show some (Value.int (i 5)) = _; rw [h5]) dX12_keeps_1 ?_
  refine lv_bipush (v := 8) hx hb dX12_keeps_4 (by decide) ?_
  refine lv_icmp_ne (tgt := 62) hx hb dX12_keeps_6 (by decide) (fun c_1 => ?_) (fun c_1 => ?_)
  · skip
    refine lv_aload_n hx hb dX12_keeps_62 rfl (lv_at hl 0 rfl) ?_
    refine va_get (D := D) (ci := 12) (v := .ref (a 1)) (C := RX12) (T := TX12) (N := 25) hx hb ht zinX12 hown hK hP 0 rfl rfl 1 (by decide) (ht _ zw_34) (fun _ h9 => h9) rfl dX12_keeps_63 ?_
    refine lv_iconst (v := 0) hx hb dX12_keeps_66 (by decide) ?_
    refine lv_aload_n hx hb dX12_keeps_67 rfl (lv_at hl 0 rfl) ?_
    refine va_get (D := D) (ci := 12) (v := .ref (a 2)) (C := RX12) (T := TX12) (N := 25) hx hb ht zinX12 hown hK hP 0 rfl rfl 2 (by decide) (ht _ zw_94) (fun _ h9 => h9) rfl dX12_keeps_68 ?_
    refine lv_aload_n hx hb dX12_keeps_71 rfl (lv_at hl 0 rfl) ?_
    refine va_get (D := D) (ci := 12) (v := .int 0) (C := RX12) (T := TX12) (N := 25) hx hb ht zinX12 hown hK hP 0 rfl rfl 5 (by decide) (ht _ zw_84) (fun _ h9 => h9) (by show some (Value.int (i 5)) = _; rw [h5]) dX12_keeps_72 ?_
    refine za_aldA hx hb hK hP 2 1 rfl rfl (vp_in_iff.mpr (by decide)) dX12_keeps_75 ?_
    refine W.eq (g2 := F0 m 76 ls (.ref (a 30) :: .int 0 :: .ref (a 1) :: [])) (by show F0 m _ ls (va_rf (fa 0) :: _) = _; rw [ha]; rfl) ?_
    refine lv_iconst (v := 0) hx hb dX12_keeps_76 (by decide) ?_
    refine lv_sipush (v := 6792) hx hb dX12_keeps_77 (by decide) ?_
    refine va_copyi hx hb (hml.trans hl.1.symm) hown (ht _ zw_95) (ht _ zw_96) (ht _ zw_97) (ht _ zw_98) hK hP hD hS 1 3 0 0 rfl rfl rfl rfl rfl (by decide) (by decide) (by decide) (Nat.le_of_ble_eq_true rfl) (Nat.le_of_ble_eq_true rfl) (fun _ _ => rfl) (Nat.le_of_ble_eq_true rfl) (Nat.le_of_ble_eq_true rfl) dX12_keeps_80 (fun H locs hP hD hS => ?_)
    have hP : va_P D vwCl [((a 0), .inr (12, zMo a i)), ((a 1), .inl (cI, 6792, .inl f)), ((a 2), .inl (cJ, 8, .inr (.inr (.inr (.inr fa))))), ((a 30), .inl (cI, 6792, .inl (va_cpy f g 0 0 6792)))] H := hP
    have hD : va_D A [((a 0), .inr (12, zMo a i)), ((a 1), .inl (cI, 6792, .inl f)), ((a 2), .inl (cJ, 8, .inr (.inr (.inr (.inr fa))))), ((a 30), .inl (cI, 6792, .inl (va_cpy f g 0 0 6792)))] := hD
    refine lv_aload_n hx hb dX12_keeps_83 rfl (lv_at hl 0 rfl) ?_
    refine lv_dup hx hb dX12_keeps_84 rfl ?_
    refine va_get (D := D) (ci := 12) (v := .int 0) (C := RX12) (T := TX12) (N := 25) hx hb ht zinX12 hown hK hP 0 rfl rfl 5 (by decide) (ht _ zw_84) (fun _ h9 => h9) (by show some (Value.int (i 5)) = _; rw [h5]) dX12_keeps_85 ?_
    refine lv_iconst (v := 1) hx hb dX12_keeps_88 (by decide) ?_
    refine lv_iadd hx hb dX12_keeps_89 ?_
    refine lv_topi (fun x_3 e_3 => ?_)
    obtain rfl : x_3 = 1 := e_3.trans (by decide)
    refine va_put (D := D) (ci := 12) (v := .int 1) (ty := .int) (C := RX12) (T := TX12) (N := 25) hx hb ht zinX12 tyX12 tyX12_ok nmX12 hown hK hP hD hS 0 rfl rfl 5 (by decide) (ht _ zw_84) (fun _ h9 => h9) rfl (by decide +kernel) rfl rfl (Nat.le_of_ble_eq_true rfl) dX12_keeps_90 (fun H locs hP hD hS => ?_)
    have hP : va_P D vwCl [((a 0), .inr (12, zMo a (upd i 5 1))), ((a 1), .inl (cI, 6792, .inl f)), ((a 2), .inl (cJ, 8, .inr (.inr (.inr (.inr fa))))), ((a 30), .inl (cI, 6792, .inl (va_cpy f g 0 0 6792)))] H := hP
    have hD : va_D A [((a 0), .inr (12, zMo a (upd i 5 1))), ((a 1), .inl (cI, 6792, .inl f)), ((a 2), .inl (cJ, 8, .inr (.inr (.inr (.inr fa))))), ((a 30), .inl (cI, 6792, .inl (va_cpy f g 0 0 6792)))] := hD
    have hP9 := hP.sub (ws' := [((a 0), .inr (12, zMo a (upd i 5 1))), ((a 1), .inl (cI, 6792, .inl f))]) [0, 1] rfl
    have hD9 := hD.sub (ws' := [((a 0), .inr (12, zMo a (upd i 5 1))), ((a 1), .inl (cI, 6792, .inl f))]) [0, 1] (by decide) rfl
    have hK9 := hK.sub (tys' := []) [] rfl
    refine W.widen (k := 0) (n := 0) (Nat.le_of_ble_eq_true rfl) (Nat.le_of_ble_eq_true rfl) ?_
    exact W.vret hx hb hr (fun t ht0 hW => ⟨⟨upd i 5 1, rfl, rfl, (zE_of hP9 hK9 hD9 ht0 hW)⟩, hS.F ht0⟩) hS.2.2 dX12_keeps_93
  · skip
    exact absurd c_1 (by decide)
set_option maxHeartbeats 4000000 in
set_option maxRecDepth 100000 in
theorem k_X12_part_ (l : Launch) (sz : Nat) (D : va_G) (a : Nat → Nat) (cI : ClassId) (p0 p1 p2 : Int32) : Met l yX12_part_ (.code yX12_part_ cX12_part_ 5 (some .int) :: zT) ({ frames := 2, cells := 0, slots := 0, locals := 43 }) (va_Pc [.ref (a 0), .int p0, .int p1, .int p2] (zM D [((a 0), .inr (12, zMo a zI0)), ((a 1), .inl (cI, 6792, .inl zI0))] [(cI, .int)] sz)) (va_Qi (fun (r : Int32) (u : Nat → Int32) => zS_part p0 p1 p2 (u 0) r) (fun u t => zE D [(a 0, .inr (12, zMo a u))] [] (va_A [((a 0), .inr (12, zMo a zI0)), ((a 1), .inl (cI, 6792, .inl zI0))] sz) t) (va_A [((a 0), .inr (12, zMo a zI0)), ((a 1), .inl (cI, 6792, .inl zI0))] sz)) 0 0 (va_A [((a 0), .inr (12, zMo a zI0)), ((a 1), .inl (cI, 6792, .inl zI0))] sz) := by
  refine Met.ofW (cc := cX12_part_) (maxL := 5) (ret := (some .int)) (by decide) rfl ?_
  intro p e s m args below meth c s₁ B hml hv
  obtain ⟨rfl, hsz, hP, hK, hD0⟩ := hv
  have hx := B.exec
  have hb := B.bytes
  have hr := B.returns
  have hts := atoms_spec (ws := (.code yX12_part_ cX12_part_ 5 (some .int) :: zT)) B.pre
  have ht : ∀ w ∈ zT, w.before _ s = true := fun w h => hts w (List.mem_cons_of_mem _ h)
  have hown : s.vm.findClass RX12 = some m.cls := findClass_of_methodNamed B.named
  have hlocks := B.notSynchronized
  subst hsz
  have hD := hD0.self (sz := s.heap.size)
  generalize hAe : va_A [((a 0), .inr (12, zMo a zI0)), ((a 1), .inl (cI, 6792, .inl zI0))] s.heap.size = A at hD ⊢
  have hA : ∀ q : Nat, s.heap.size ≤ q → A q := fun q h => by rw [← hAe]; exact Or.inr h
  have hS : va_S A s.heap s.heap [] := va_S.rf
  have hP : va_P D vwCl [((a 0), .inr (12, zMo a zI0)), ((a 1), .inl (cI, 6792, .inl zI0))] s.heap := hP
  have hl := lv_entry ([.ref (a 0), .int p0, .int p1, .int p2]) (n := 5) (Nat.le_of_ble_eq_true rfl)
  rw [lg_entry_eq]
  generalize (lg_sl ([.ref (a 0), .int p0, .int p1, .int p2]) ++ List.replicate (5 - (lg_sl ([.ref (a 0), .int p0, .int p1, .int p2])).length) Slot.unset).toArray = ls at hl ⊢
  have hl : lv_has ls 5 [(0, .ref (a 0)), (1, .int p0), (2, .int p1), (3, .int p2)] := hl
  skip
  refine lv_aload_n hx hb dX12_part__0 rfl (lv_at hl 0 rfl) ?_
  refine lv_iload_n hx hb dX12_part__1 rfl (lv_at hl 1 rfl) ?_
  refine vp_callSi (va_runS (As := [.int p0]) (rest := [.ref (a 0)]) ⟨hx, hb, hml, hown, ht⟩ (k_X12_isRegister l p0) (va_cwS 1 ht (zG_S zw_59 zw_60 zw_2 zw_61) rfl rfl rfl (by decide +kernel) ⟨Nat.le_of_ble_eq_true rfl, Nat.le_of_ble_eq_true rfl⟩) zN_S rfl rfl hl.1 rfl (lv_room (Nat.le_of_ble_eq_true rfl)) dX12_part__2 ⟨Nat.le_of_ble_eq_true rfl, Nat.le_of_ble_eq_true rfl⟩).run (fun r_1 hw_1 => ?_)
  rcases hw_1 with ⟨rfl, h_1⟩ | ⟨rfl, h_1⟩
  · skip
    refine lv_if_eq (tgt := 19) hx hb dX12_part__5 (by decide) (fun c_2 => ?_) (fun c_2 => ?_)
    · skip
      exact absurd c_2 (by decide)
    · skip
      refine lv_iload_n hx hb dX12_part__8 rfl (lv_at hl 3 rfl) ?_
      refine vp_callSi (va_runS (As := [.int p2]) (rest := [.ref (a 0)]) ⟨hx, hb, hml, hown, ht⟩ (k_X12_isRegister l p2) (va_cwS 1 ht (zG_S zw_59 zw_60 zw_2 zw_61) rfl rfl rfl (by decide +kernel) ⟨Nat.le_of_ble_eq_true rfl, Nat.le_of_ble_eq_true rfl⟩) zN_S rfl rfl hl.1 rfl (lv_room (Nat.le_of_ble_eq_true rfl)) dX12_part__9 ⟨Nat.le_of_ble_eq_true rfl, Nat.le_of_ble_eq_true rfl⟩).run (fun r_3 hw_3 => ?_)
      rcases hw_3 with ⟨rfl, h_3⟩ | ⟨rfl, h_3⟩
      · skip
        refine lv_if_eq (tgt := 19) hx hb dX12_part__12 (by decide) (fun c_4 => ?_) (fun c_4 => ?_)
        · skip
          exact absurd c_4 (by decide)
        · skip
          refine lv_iconst (v := 1) hx hb dX12_part__15 (by decide) ?_
          refine lv_goto (tgt := 20) hx hb dX12_part__16 (by decide) ?_
          have hPc := hP.sub (ws' := [((a 0), .inr (12, zMo a zI0))]) [0] rfl
          have hDc := hD.sub (ws' := [((a 0), .inr (12, zMo a zI0))]) [0] (by decide) rfl
          have hKc := hK.sub (tys' := []) [] rfl
          have hFc := va_free (wc := [((a 0), .inr (12, zMo a zI0))]) hD hS hA [0] rfl
          refine va_calli (va_runV (As := [.int 1]) (rest := []) ⟨hx, hb, hml, hown, ht⟩ (k_X12_lacks l _ D a zI0 1 (by decide)) (cwV 1 ht (zG_V zw_62 zw_63 zw_64 zw_2 zw_65) rfl rfl rfl (by decide +kernel) ⟨Nat.le_of_ble_eq_true rfl, Nat.le_of_ble_eq_true rfl⟩) (zM_V (va_recv hK hP (ci := 12) (q0 := 0) rfl rfl) hPc hKc hDc) rfl rfl hl.1 rfl (lv_room (Nat.le_of_ble_eq_true rfl)) dX12_part__20 ⟨Nat.le_of_ble_eq_true rfl, Nat.le_of_ble_eq_true rfl⟩) hS (fun q _ h => hFc q h) hFc (fun r_5 u_5 t H1 locs ht0 hvm hw_5 hB hz1 hk1 hS => ?_)
          obtain ⟨rfl, rfl⟩ := hw_5.2 (by decide)
          obtain ⟨hP1, hK1, hD1⟩ := hB
          rw [ht0] at hP1
          have hK1 := va_K.moved hvm.symm hK1
          obtain ⟨hP, hD⟩ := va_join (wr := [((a 1), .inl (cI, 6792, .inl zI0))]) (w1 := [((a 0), .inr (12, zMo a (upd zI0 0 0)))]) hP hD [0] [1] rfl rfl (by decide) (by decide) hk1 hFc hP1 hD1
          generalize H1 = H at hP hS ⊢
          have hP : va_P D vwCl [((a 1), .inl (cI, 6792, .inl zI0)), ((a 0), .inr (12, zMo a (upd zI0 0 0)))] H := hP
          have hD : va_D A [((a 1), .inl (cI, 6792, .inl zI0)), ((a 0), .inr (12, zMo a (upd zI0 0 0)))] := hD
          refine lv_if_eq (tgt := 28) hx hb dX12_part__23 (by decide) (fun c_6 => ?_) (fun c_6 => ?_)
          · skip
            refine lv_aload_n hx hb dX12_part__28 rfl (lv_at hl 0 rfl) ?_
            refine lv_aload_n hx hb dX12_part__29 rfl (lv_at hl 0 rfl) ?_
            refine lv_iload_n hx hb dX12_part__30 rfl (lv_at hl 1 rfl) ?_
            refine vp_callSi (va_runV (As := [.int p0]) (rest := [.ref (a 0)]) ⟨hx, hb, hml, hown, ht⟩ (k_X12_isFull l D a (upd zI0 0 0) cI p0 h_1) (cwV 1 ht (zG_V zw_69 zw_70 zw_71 zw_2 zw_72) rfl rfl rfl (by decide +kernel) ⟨Nat.le_of_ble_eq_true rfl, Nat.le_of_ble_eq_true rfl⟩) (zR_V (va_recv hK hP (ci := 12) (q0 := 1) rfl rfl) (hP.sub (ws' := [((a 0), .inr (12, zMo a (upd zI0 0 0))), ((a 1), .inl (cI, 6792, .inl zI0))]) [1, 0] rfl) hK) rfl rfl hl.1 rfl (lv_room (Nat.le_of_ble_eq_true rfl)) dX12_part__31 ⟨Nat.le_of_ble_eq_true rfl, Nat.le_of_ble_eq_true rfl⟩).run (fun r_7 hw_7 => ?_)
            obtain rfl : r_7 = 0 := hw_7
            refine lv_if_eq (tgt := 57) hx hb dX12_part__34 (by decide) (fun c_8 => ?_) (fun c_8 => ?_)
            · skip
              refine lv_iconst (v := 1) hx hb dX12_part__57 (by decide) ?_
              refine lv_goto (tgt := 62) hx hb dX12_part__58 (by decide) ?_
              refine lv_iconst (v := 1) hx hb dX12_part__62 (by decide) ?_
              have hPc := hP.sub (ws' := [((a 0), .inr (12, zMo a (upd zI0 0 0)))]) [1] rfl
              have hDc := hD.sub (ws' := [((a 0), .inr (12, zMo a (upd zI0 0 0)))]) [1] (by decide) rfl
              have hKc := hK.sub (tys' := []) [] rfl
              have hFc := va_free (wc := [((a 0), .inr (12, zMo a (upd zI0 0 0)))]) hD hS hA [1] rfl
              refine va_calli (va_runV (As := [.int 1, .int 1]) (rest := []) ⟨hx, hb, hml, hown, ht⟩ (k_X12_no l _ D a (upd zI0 0 0) 1 1 (by decide)) (cwV 2 ht (zG_V zw_30 zw_31 zw_32 zw_2 zw_33) rfl rfl rfl (by decide +kernel) ⟨Nat.le_of_ble_eq_true rfl, Nat.le_of_ble_eq_true rfl⟩) (zM_V (va_recv hK hP (ci := 12) (q0 := 1) rfl rfl) hPc hKc hDc) rfl rfl hl.1 rfl (lv_room (Nat.le_of_ble_eq_true rfl)) dX12_part__63 ⟨Nat.le_of_ble_eq_true rfl, Nat.le_of_ble_eq_true rfl⟩) hS (fun q _ h => hFc q h) hFc (fun r_9 u_9 t H1 locs ht0 hvm hw_9 hB hz1 hk1 hS => ?_)
              obtain ⟨rfl, rfl⟩ := hw_9.2 (by decide)
              obtain ⟨hP1, hK1, hD1⟩ := hB
              rw [ht0] at hP1
              have hK1 := va_K.moved hvm.symm hK1
              obtain ⟨hP, hD⟩ := va_join (wr := [((a 1), .inl (cI, 6792, .inl zI0))]) (w1 := [((a 0), .inr (12, zMo a (upd zI0 0 0)))]) hP hD [1] [0] rfl rfl (by decide) (by decide) hk1 hFc hP1 hD1
              generalize H1 = H at hP hS ⊢
              have hP : va_P D vwCl [((a 1), .inl (cI, 6792, .inl zI0)), ((a 0), .inr (12, zMo a (upd zI0 0 0)))] H := hP
              have hD : va_D A [((a 1), .inl (cI, 6792, .inl zI0)), ((a 0), .inr (12, zMo a (upd zI0 0 0)))] := hD
              refine lv_if_ne (tgt := 82) hx hb dX12_part__66 (by decide) (fun c_10 => ?_) (fun c_10 => ?_)
              · skip
                exact absurd c_10 (by decide)
              · skip
                refine lv_aload_n hx hb dX12_part__69 rfl (lv_at hl 0 rfl) ?_
                refine lv_aload_n hx hb dX12_part__70 rfl (lv_at hl 0 rfl) ?_
                refine lv_iload_n hx hb dX12_part__71 rfl (lv_at hl 1 rfl) ?_
                refine vp_callSi (va_runV (As := [.int p0]) (rest := [.ref (a 0)]) ⟨hx, hb, hml, hown, ht⟩ (k_X12_isFull l D a (upd zI0 0 0) cI p0 h_1) (cwV 1 ht (zG_V zw_69 zw_70 zw_71 zw_2 zw_72) rfl rfl rfl (by decide +kernel) ⟨Nat.le_of_ble_eq_true rfl, Nat.le_of_ble_eq_true rfl⟩) (zR_V (va_recv hK hP (ci := 12) (q0 := 1) rfl rfl) (hP.sub (ws' := [((a 0), .inr (12, zMo a (upd zI0 0 0))), ((a 1), .inl (cI, 6792, .inl zI0))]) [1, 0] rfl) hK) rfl rfl hl.1 rfl (lv_room (Nat.le_of_ble_eq_true rfl)) dX12_part__72 ⟨Nat.le_of_ble_eq_true rfl, Nat.le_of_ble_eq_true rfl⟩).run (fun r_11 hw_11 => ?_)
                obtain rfl : r_11 = 0 := hw_11
                refine lv_iconst (v := 2) hx hb dX12_part__75 (by decide) ?_
                have hPc := hP.sub (ws' := [((a 0), .inr (12, zMo a (upd zI0 0 0)))]) [1] rfl
                have hDc := hD.sub (ws' := [((a 0), .inr (12, zMo a (upd zI0 0 0)))]) [1] (by decide) rfl
                have hKc := hK.sub (tys' := []) [] rfl
                have hFc := va_free (wc := [((a 0), .inr (12, zMo a (upd zI0 0 0)))]) hD hS hA [1] rfl
                refine va_calli (va_runV (As := [.int 0, .int 2]) (rest := []) ⟨hx, hb, hml, hown, ht⟩ (k_X12_no l _ D a (upd zI0 0 0) 0 2 (by decide)) (cwV 2 ht (zG_V zw_30 zw_31 zw_32 zw_2 zw_33) rfl rfl rfl (by decide +kernel) ⟨Nat.le_of_ble_eq_true rfl, Nat.le_of_ble_eq_true rfl⟩) (zM_V (va_recv hK hP (ci := 12) (q0 := 1) rfl rfl) hPc hKc hDc) rfl rfl hl.1 rfl (lv_room (Nat.le_of_ble_eq_true rfl)) dX12_part__76 ⟨Nat.le_of_ble_eq_true rfl, Nat.le_of_ble_eq_true rfl⟩) hS (fun q _ h => hFc q h) hFc (fun r_12 u_12 t H1 locs ht0 hvm hw_12 hB hz1 hk1 hS => ?_)
                obtain ⟨rfl, rfl⟩ := hw_12.1 rfl
                obtain ⟨hP1, hK1, hD1⟩ := hB
                rw [ht0] at hP1
                have hK1 := va_K.moved hvm.symm hK1
                obtain ⟨hP, hD⟩ := va_join (wr := [((a 1), .inl (cI, 6792, .inl zI0))]) (w1 := [((a 0), .inr (12, zMo a (upd zI0 0 2)))]) hP hD [1] [0] rfl rfl (by decide) (by decide) hk1 hFc hP1 hD1
                generalize H1 = H at hP hS ⊢
                have hP : va_P D vwCl [((a 1), .inl (cI, 6792, .inl zI0)), ((a 0), .inr (12, zMo a (upd zI0 0 2)))] H := hP
                have hD : va_D A [((a 1), .inl (cI, 6792, .inl zI0)), ((a 0), .inr (12, zMo a (upd zI0 0 2)))] := hD
                refine lv_if_eq (tgt := 84) hx hb dX12_part__79 (by decide) (fun c_13 => ?_) (fun c_13 => ?_)
                · skip
                  exact absurd c_13 (by decide)
                · skip
                  refine lv_iconst (v := 0) hx hb dX12_part__82 (by decide) ?_
                  have hP9 := hP.sub (ws' := [((a 0), .inr (12, zMo a (upd zI0 0 2)))]) [1] rfl
                  have hD9 := hD.sub (ws' := [((a 0), .inr (12, zMo a (upd zI0 0 2)))]) [1] (by decide) rfl
                  have hK9 := hK.sub (tys' := []) [] rfl
                  refine W.widen (k := 0) (n := 0) (Nat.le_of_ble_eq_true rfl) (Nat.le_of_ble_eq_true rfl) ?_
                  exact W.iret (v := 0) hx hb hr (fun t ht0 hW => ⟨⟨0, upd zI0 0 2, rfl, (show zS_part p0 p1 p2 2 0 from (.inr ⟨rfl, by omega⟩)), (zE_of hP9 hK9 hD9 ht0 hW)⟩, hS.F ht0⟩) hS.2.2 dX12_part__83
            · skip
              exact absurd c_8 (by decide)
          · skip
            exact absurd c_6 (by decide)
      · skip
        refine lv_if_eq (tgt := 19) hx hb dX12_part__12 (by decide) (fun c_14 => ?_) (fun c_14 => ?_)
        · skip
          refine lv_iconst (v := 0) hx hb dX12_part__19 (by decide) ?_
          have hPc := hP.sub (ws' := [((a 0), .inr (12, zMo a zI0))]) [0] rfl
          have hDc := hD.sub (ws' := [((a 0), .inr (12, zMo a zI0))]) [0] (by decide) rfl
          have hKc := hK.sub (tys' := []) [] rfl
          have hFc := va_free (wc := [((a 0), .inr (12, zMo a zI0))]) hD hS hA [0] rfl
          refine va_calli (va_runV (As := [.int 0]) (rest := []) ⟨hx, hb, hml, hown, ht⟩ (k_X12_lacks l _ D a zI0 0 (by decide)) (cwV 1 ht (zG_V zw_62 zw_63 zw_64 zw_2 zw_65) rfl rfl rfl (by decide +kernel) ⟨Nat.le_of_ble_eq_true rfl, Nat.le_of_ble_eq_true rfl⟩) (zM_V (va_recv hK hP (ci := 12) (q0 := 0) rfl rfl) hPc hKc hDc) rfl rfl hl.1 rfl (lv_room (Nat.le_of_ble_eq_true rfl)) dX12_part__20 ⟨Nat.le_of_ble_eq_true rfl, Nat.le_of_ble_eq_true rfl⟩) hS (fun q _ h => hFc q h) hFc (fun r_15 u_15 t H1 locs ht0 hvm hw_15 hB hz1 hk1 hS => ?_)
          obtain ⟨rfl, rfl⟩ := hw_15.1 rfl
          obtain ⟨hP1, hK1, hD1⟩ := hB
          rw [ht0] at hP1
          have hK1 := va_K.moved hvm.symm hK1
          obtain ⟨hP, hD⟩ := va_join (wr := [((a 1), .inl (cI, 6792, .inl zI0))]) (w1 := [((a 0), .inr (12, zMo a (upd zI0 0 1)))]) hP hD [0] [1] rfl rfl (by decide) (by decide) hk1 hFc hP1 hD1
          generalize H1 = H at hP hS ⊢
          have hP : va_P D vwCl [((a 1), .inl (cI, 6792, .inl zI0)), ((a 0), .inr (12, zMo a (upd zI0 0 1)))] H := hP
          have hD : va_D A [((a 1), .inl (cI, 6792, .inl zI0)), ((a 0), .inr (12, zMo a (upd zI0 0 1)))] := hD
          refine lv_if_eq (tgt := 28) hx hb dX12_part__23 (by decide) (fun c_16 => ?_) (fun c_16 => ?_)
          · skip
            exact absurd c_16 (by decide)
          · skip
            refine lv_iconst (v := 0) hx hb dX12_part__26 (by decide) ?_
            have hP9 := hP.sub (ws' := [((a 0), .inr (12, zMo a (upd zI0 0 1)))]) [1] rfl
            have hD9 := hD.sub (ws' := [((a 0), .inr (12, zMo a (upd zI0 0 1)))]) [1] (by decide) rfl
            have hK9 := hK.sub (tys' := []) [] rfl
            refine W.widen (k := 0) (n := 0) (Nat.le_of_ble_eq_true rfl) (Nat.le_of_ble_eq_true rfl) ?_
            exact W.iret (v := 0) hx hb hr (fun t ht0 hW => ⟨⟨0, upd zI0 0 1, rfl, (show zS_part p0 p1 p2 1 0 from (.inl ⟨rfl, by omega⟩)), (zE_of hP9 hK9 hD9 ht0 hW)⟩, hS.F ht0⟩) hS.2.2 dX12_part__27
        · skip
          exact absurd c_14 (by decide)
  · skip
    refine lv_if_eq (tgt := 19) hx hb dX12_part__5 (by decide) (fun c_17 => ?_) (fun c_17 => ?_)
    · skip
      refine lv_iconst (v := 0) hx hb dX12_part__19 (by decide) ?_
      have hPc := hP.sub (ws' := [((a 0), .inr (12, zMo a zI0))]) [0] rfl
      have hDc := hD.sub (ws' := [((a 0), .inr (12, zMo a zI0))]) [0] (by decide) rfl
      have hKc := hK.sub (tys' := []) [] rfl
      have hFc := va_free (wc := [((a 0), .inr (12, zMo a zI0))]) hD hS hA [0] rfl
      refine va_calli (va_runV (As := [.int 0]) (rest := []) ⟨hx, hb, hml, hown, ht⟩ (k_X12_lacks l _ D a zI0 0 (by decide)) (cwV 1 ht (zG_V zw_62 zw_63 zw_64 zw_2 zw_65) rfl rfl rfl (by decide +kernel) ⟨Nat.le_of_ble_eq_true rfl, Nat.le_of_ble_eq_true rfl⟩) (zM_V (va_recv hK hP (ci := 12) (q0 := 0) rfl rfl) hPc hKc hDc) rfl rfl hl.1 rfl (lv_room (Nat.le_of_ble_eq_true rfl)) dX12_part__20 ⟨Nat.le_of_ble_eq_true rfl, Nat.le_of_ble_eq_true rfl⟩) hS (fun q _ h => hFc q h) hFc (fun r_18 u_18 t H1 locs ht0 hvm hw_18 hB hz1 hk1 hS => ?_)
      obtain ⟨rfl, rfl⟩ := hw_18.1 rfl
      obtain ⟨hP1, hK1, hD1⟩ := hB
      rw [ht0] at hP1
      have hK1 := va_K.moved hvm.symm hK1
      obtain ⟨hP, hD⟩ := va_join (wr := [((a 1), .inl (cI, 6792, .inl zI0))]) (w1 := [((a 0), .inr (12, zMo a (upd zI0 0 1)))]) hP hD [0] [1] rfl rfl (by decide) (by decide) hk1 hFc hP1 hD1
      generalize H1 = H at hP hS ⊢
      have hP : va_P D vwCl [((a 1), .inl (cI, 6792, .inl zI0)), ((a 0), .inr (12, zMo a (upd zI0 0 1)))] H := hP
      have hD : va_D A [((a 1), .inl (cI, 6792, .inl zI0)), ((a 0), .inr (12, zMo a (upd zI0 0 1)))] := hD
      refine lv_if_eq (tgt := 28) hx hb dX12_part__23 (by decide) (fun c_19 => ?_) (fun c_19 => ?_)
      · skip
        exact absurd c_19 (by decide)
      · skip
        refine lv_iconst (v := 0) hx hb dX12_part__26 (by decide) ?_
        have hP9 := hP.sub (ws' := [((a 0), .inr (12, zMo a (upd zI0 0 1)))]) [1] rfl
        have hD9 := hD.sub (ws' := [((a 0), .inr (12, zMo a (upd zI0 0 1)))]) [1] (by decide) rfl
        have hK9 := hK.sub (tys' := []) [] rfl
        refine W.widen (k := 0) (n := 0) (Nat.le_of_ble_eq_true rfl) (Nat.le_of_ble_eq_true rfl) ?_
        exact W.iret (v := 0) hx hb hr (fun t ht0 hW => ⟨⟨0, upd zI0 0 1, rfl, (show zS_part p0 p1 p2 1 0 from (.inl ⟨rfl, by omega⟩)), (zE_of hP9 hK9 hD9 ht0 hW)⟩, hS.F ht0⟩) hS.2.2 dX12_part__27
    · skip
      exact absurd c_17 (by decide)
set_option maxHeartbeats 4000000 in
set_option maxRecDepth 100000 in
theorem k_X12_end (l : Launch) (sz : Nat) (D : va_G) (a : Nat → Nat) (cI : ClassId) (p0 p1 : Int32) : Met l yX12_end (.code yX12_end cX12_end 8 (some .int) :: zT) ({ frames := 2, cells := 0, slots := 0, locals := 43 }) (va_Pc [.ref (a 0), .int p0, .int p1] (zM D [((a 0), .inr (12, zMo a zI0)), ((a 1), .inl (cI, 6792, .inl zI0))] [(cI, .int)] sz)) (va_Qi (fun (r : Int32) (u : Nat → Int32) => zS_end p0 p1 (u 0) r) (fun u t => zE D [(a 0, .inr (12, zMo a u))] [] (va_A [((a 0), .inr (12, zMo a zI0)), ((a 1), .inl (cI, 6792, .inl zI0))] sz) t) (va_A [((a 0), .inr (12, zMo a zI0)), ((a 1), .inl (cI, 6792, .inl zI0))] sz)) 0 0 (va_A [((a 0), .inr (12, zMo a zI0)), ((a 1), .inl (cI, 6792, .inl zI0))] sz) := by
  refine Met.ofW (cc := cX12_end) (maxL := 8) (ret := (some .int)) (by decide) rfl ?_
  intro p e s m args below meth c s₁ B hml hv
  obtain ⟨rfl, hsz, hP, hK, hD0⟩ := hv
  have hx := B.exec
  have hb := B.bytes
  have hr := B.returns
  have hts := atoms_spec (ws := (.code yX12_end cX12_end 8 (some .int) :: zT)) B.pre
  have ht : ∀ w ∈ zT, w.before _ s = true := fun w h => hts w (List.mem_cons_of_mem _ h)
  have hown : s.vm.findClass RX12 = some m.cls := findClass_of_methodNamed B.named
  have hlocks := B.notSynchronized
  subst hsz
  have hD := hD0.self (sz := s.heap.size)
  generalize hAe : va_A [((a 0), .inr (12, zMo a zI0)), ((a 1), .inl (cI, 6792, .inl zI0))] s.heap.size = A at hD ⊢
  have hA : ∀ q : Nat, s.heap.size ≤ q → A q := fun q h => by rw [← hAe]; exact Or.inr h
  have hS : va_S A s.heap s.heap [] := va_S.rf
  have hP : va_P D vwCl [((a 0), .inr (12, zMo a zI0)), ((a 1), .inl (cI, 6792, .inl zI0))] s.heap := hP
  have hl := lv_entry ([.ref (a 0), .int p0, .int p1]) (n := 8) (Nat.le_of_ble_eq_true rfl)
  rw [lg_entry_eq]
  generalize (lg_sl ([.ref (a 0), .int p0, .int p1]) ++ List.replicate (8 - (lg_sl ([.ref (a 0), .int p0, .int p1])).length) Slot.unset).toArray = ls at hl ⊢
  have hl : lv_has ls 8 [(0, .ref (a 0)), (1, .int p0), (2, .int p1)] := hl
  skip
  refine lv_aload_n hx hb dX12_end_0 rfl (lv_at hl 0 rfl) ?_
  refine lv_iload_n hx hb dX12_end_1 rfl (lv_at hl 1 rfl) ?_
  refine vp_callSi (va_runS (As := [.int p0]) (rest := [.ref (a 0)]) ⟨hx, hb, hml, hown, ht⟩ (k_X12_isName l p0) (va_cwS 1 ht (zG_S zw_66 zw_67 zw_2 zw_68) rfl rfl rfl (by decide +kernel) ⟨Nat.le_of_ble_eq_true rfl, Nat.le_of_ble_eq_true rfl⟩) zN_S rfl rfl hl.1 rfl (lv_room (Nat.le_of_ble_eq_true rfl)) dX12_end_2 ⟨Nat.le_of_ble_eq_true rfl, Nat.le_of_ble_eq_true rfl⟩).run (fun r_1 hw_1 => ?_)
  rcases hw_1 with ⟨rfl, h_1⟩ | ⟨rfl, h_1⟩
  · skip
    have hPc := hP.sub (ws' := [((a 0), .inr (12, zMo a zI0))]) [0] rfl
    have hDc := hD.sub (ws' := [((a 0), .inr (12, zMo a zI0))]) [0] (by decide) rfl
    have hKc := hK.sub (tys' := []) [] rfl
    have hFc := va_free (wc := [((a 0), .inr (12, zMo a zI0))]) hD hS hA [0] rfl
    refine va_calli (va_runV (As := [.int 1]) (rest := []) ⟨hx, hb, hml, hown, ht⟩ (k_X12_lacks l _ D a zI0 1 (by decide)) (cwV 1 ht (zG_V zw_62 zw_63 zw_64 zw_2 zw_65) rfl rfl rfl (by decide +kernel) ⟨Nat.le_of_ble_eq_true rfl, Nat.le_of_ble_eq_true rfl⟩) (zM_V (va_recv hK hP (ci := 12) (q0 := 0) rfl rfl) hPc hKc hDc) rfl rfl hl.1 rfl (lv_room (Nat.le_of_ble_eq_true rfl)) dX12_end_5 ⟨Nat.le_of_ble_eq_true rfl, Nat.le_of_ble_eq_true rfl⟩) hS (fun q _ h => hFc q h) hFc (fun r_2 u_2 t H1 locs ht0 hvm hw_2 hB hz1 hk1 hS => ?_)
    obtain ⟨rfl, rfl⟩ := hw_2.2 (by decide)
    obtain ⟨hP1, hK1, hD1⟩ := hB
    rw [ht0] at hP1
    have hK1 := va_K.moved hvm.symm hK1
    obtain ⟨hP, hD⟩ := va_join (wr := [((a 1), .inl (cI, 6792, .inl zI0))]) (w1 := [((a 0), .inr (12, zMo a (upd zI0 0 0)))]) hP hD [0] [1] rfl rfl (by decide) (by decide) hk1 hFc hP1 hD1
    generalize H1 = H at hP hS ⊢
    have hP : va_P D vwCl [((a 1), .inl (cI, 6792, .inl zI0)), ((a 0), .inr (12, zMo a (upd zI0 0 0)))] H := hP
    have hD : va_D A [((a 1), .inl (cI, 6792, .inl zI0)), ((a 0), .inr (12, zMo a (upd zI0 0 0)))] := hD
    refine lv_if_ne (tgt := 43) hx hb dX12_end_8 (by decide) (fun c_3 => ?_) (fun c_3 => ?_)
    · skip
      exact absurd c_3 (by decide)
    · skip
      refine lv_aload_n hx hb dX12_end_11 rfl (lv_at hl 0 rfl) ?_
      refine lv_iload_n hx hb dX12_end_12 rfl (lv_at hl 2 rfl) ?_
      refine vp_callSi (va_runS (As := [.int p1]) (rest := [.ref (a 0)]) ⟨hx, hb, hml, hown, ht⟩ (k_X12_isChain l p1) (va_cwS 1 ht (zG_S zw_77 zw_78 zw_2 zw_79) rfl rfl rfl (by decide +kernel) ⟨Nat.le_of_ble_eq_true rfl, Nat.le_of_ble_eq_true rfl⟩) zN_S rfl rfl hl.1 rfl (lv_room (Nat.le_of_ble_eq_true rfl)) dX12_end_13 ⟨Nat.le_of_ble_eq_true rfl, Nat.le_of_ble_eq_true rfl⟩).run (fun r_4 hw_4 => ?_)
      rcases hw_4 with ⟨rfl, h_4⟩ | ⟨rfl, h_4⟩
      · skip
        refine lv_iconst (v := 2) hx hb dX12_end_16 (by decide) ?_
        have hPc := hP.sub (ws' := [((a 0), .inr (12, zMo a (upd zI0 0 0)))]) [1] rfl
        have hDc := hD.sub (ws' := [((a 0), .inr (12, zMo a (upd zI0 0 0)))]) [1] (by decide) rfl
        have hKc := hK.sub (tys' := []) [] rfl
        have hFc := va_free (wc := [((a 0), .inr (12, zMo a (upd zI0 0 0)))]) hD hS hA [1] rfl
        refine va_calli (va_runV (As := [.int 1, .int 2]) (rest := []) ⟨hx, hb, hml, hown, ht⟩ (k_X12_no l _ D a (upd zI0 0 0) 1 2 (by decide)) (cwV 2 ht (zG_V zw_30 zw_31 zw_32 zw_2 zw_33) rfl rfl rfl (by decide +kernel) ⟨Nat.le_of_ble_eq_true rfl, Nat.le_of_ble_eq_true rfl⟩) (zM_V (va_recv hK hP (ci := 12) (q0 := 1) rfl rfl) hPc hKc hDc) rfl rfl hl.1 rfl (lv_room (Nat.le_of_ble_eq_true rfl)) dX12_end_17 ⟨Nat.le_of_ble_eq_true rfl, Nat.le_of_ble_eq_true rfl⟩) hS (fun q _ h => hFc q h) hFc (fun r_5 u_5 t H1 locs ht0 hvm hw_5 hB hz1 hk1 hS => ?_)
        obtain ⟨rfl, rfl⟩ := hw_5.2 (by decide)
        obtain ⟨hP1, hK1, hD1⟩ := hB
        rw [ht0] at hP1
        have hK1 := va_K.moved hvm.symm hK1
        obtain ⟨hP, hD⟩ := va_join (wr := [((a 1), .inl (cI, 6792, .inl zI0))]) (w1 := [((a 0), .inr (12, zMo a (upd zI0 0 0)))]) hP hD [1] [0] rfl rfl (by decide) (by decide) hk1 hFc hP1 hD1
        generalize H1 = H at hP hS ⊢
        have hP : va_P D vwCl [((a 1), .inl (cI, 6792, .inl zI0)), ((a 0), .inr (12, zMo a (upd zI0 0 0)))] H := hP
        have hD : va_D A [((a 1), .inl (cI, 6792, .inl zI0)), ((a 0), .inr (12, zMo a (upd zI0 0 0)))] := hD
        refine lv_if_ne (tgt := 43) hx hb dX12_end_20 (by decide) (fun c_6 => ?_) (fun c_6 => ?_)
        · skip
          exact absurd c_6 (by decide)
        · skip
          refine lv_aload_n hx hb dX12_end_23 rfl (lv_at hl 0 rfl) ?_
          refine lv_aload_n hx hb dX12_end_24 rfl (lv_at hl 0 rfl) ?_
          refine vp_callSi (va_runV (As := []) (rest := [.ref (a 0)]) ⟨hx, hb, hml, hown, ht⟩ (k_X12_openNow l D a (upd zI0 0 0) cI) (cwV 0 ht (zG_V zw_51 zw_52 zw_53 zw_2 zw_54) rfl rfl rfl (by decide +kernel) ⟨Nat.le_of_ble_eq_true rfl, Nat.le_of_ble_eq_true rfl⟩) (zR_V (va_recv hK hP (ci := 12) (q0 := 1) rfl rfl) (hP.sub (ws' := [((a 0), .inr (12, zMo a (upd zI0 0 0))), ((a 1), .inl (cI, 6792, .inl zI0))]) [1, 0] rfl) hK) rfl rfl hl.1 rfl (lv_room (Nat.le_of_ble_eq_true rfl)) dX12_end_25 ⟨Nat.le_of_ble_eq_true rfl, Nat.le_of_ble_eq_true rfl⟩).run (fun r_7 hw_7 => ?_)
          obtain rfl : r_7 = 0 := hw_7
          refine lv_if_le (tgt := 35) hx hb dX12_end_28 (by decide) (fun c_8 => ?_) (fun c_8 => ?_)
          · skip
            refine lv_iconst (v := 0) hx hb dX12_end_35 (by decide) ?_
            refine lv_iconst (v := 3) hx hb dX12_end_36 (by decide) ?_
            have hPc := hP.sub (ws' := [((a 0), .inr (12, zMo a (upd zI0 0 0)))]) [1] rfl
            have hDc := hD.sub (ws' := [((a 0), .inr (12, zMo a (upd zI0 0 0)))]) [1] (by decide) rfl
            have hKc := hK.sub (tys' := []) [] rfl
            have hFc := va_free (wc := [((a 0), .inr (12, zMo a (upd zI0 0 0)))]) hD hS hA [1] rfl
            refine va_calli (va_runV (As := [.int 0, .int 3]) (rest := []) ⟨hx, hb, hml, hown, ht⟩ (k_X12_no l _ D a (upd zI0 0 0) 0 3 (by decide)) (cwV 2 ht (zG_V zw_30 zw_31 zw_32 zw_2 zw_33) rfl rfl rfl (by decide +kernel) ⟨Nat.le_of_ble_eq_true rfl, Nat.le_of_ble_eq_true rfl⟩) (zM_V (va_recv hK hP (ci := 12) (q0 := 1) rfl rfl) hPc hKc hDc) rfl rfl hl.1 rfl (lv_room (Nat.le_of_ble_eq_true rfl)) dX12_end_37 ⟨Nat.le_of_ble_eq_true rfl, Nat.le_of_ble_eq_true rfl⟩) hS (fun q _ h => hFc q h) hFc (fun r_9 u_9 t H1 locs ht0 hvm hw_9 hB hz1 hk1 hS => ?_)
            obtain ⟨rfl, rfl⟩ := hw_9.1 rfl
            obtain ⟨hP1, hK1, hD1⟩ := hB
            rw [ht0] at hP1
            have hK1 := va_K.moved hvm.symm hK1
            obtain ⟨hP, hD⟩ := va_join (wr := [((a 1), .inl (cI, 6792, .inl zI0))]) (w1 := [((a 0), .inr (12, zMo a (upd zI0 0 3)))]) hP hD [1] [0] rfl rfl (by decide) (by decide) hk1 hFc hP1 hD1
            generalize H1 = H at hP hS ⊢
            have hP : va_P D vwCl [((a 1), .inl (cI, 6792, .inl zI0)), ((a 0), .inr (12, zMo a (upd zI0 0 3)))] H := hP
            have hD : va_D A [((a 1), .inl (cI, 6792, .inl zI0)), ((a 0), .inr (12, zMo a (upd zI0 0 3)))] := hD
            refine lv_if_eq (tgt := 45) hx hb dX12_end_40 (by decide) (fun c_10 => ?_) (fun c_10 => ?_)
            · skip
              exact absurd c_10 (by decide)
            · skip
              refine lv_iconst (v := 0) hx hb dX12_end_43 (by decide) ?_
              have hP9 := hP.sub (ws' := [((a 0), .inr (12, zMo a (upd zI0 0 3)))]) [1] rfl
              have hD9 := hD.sub (ws' := [((a 0), .inr (12, zMo a (upd zI0 0 3)))]) [1] (by decide) rfl
              have hK9 := hK.sub (tys' := []) [] rfl
              refine W.widen (k := 0) (n := 0) (Nat.le_of_ble_eq_true rfl) (Nat.le_of_ble_eq_true rfl) ?_
              exact W.iret (v := 0) hx hb hr (fun t ht0 hW => ⟨⟨0, upd zI0 0 3, rfl, (show zS_end p0 p1 3 0 from (.inr (.inr ⟨rfl, by omega⟩))), (zE_of hP9 hK9 hD9 ht0 hW)⟩, hS.F ht0⟩) hS.2.2 dX12_end_44
          · skip
            exact absurd c_8 (by decide)
      · skip
        refine lv_iconst (v := 2) hx hb dX12_end_16 (by decide) ?_
        have hPc := hP.sub (ws' := [((a 0), .inr (12, zMo a (upd zI0 0 0)))]) [1] rfl
        have hDc := hD.sub (ws' := [((a 0), .inr (12, zMo a (upd zI0 0 0)))]) [1] (by decide) rfl
        have hKc := hK.sub (tys' := []) [] rfl
        have hFc := va_free (wc := [((a 0), .inr (12, zMo a (upd zI0 0 0)))]) hD hS hA [1] rfl
        refine va_calli (va_runV (As := [.int 0, .int 2]) (rest := []) ⟨hx, hb, hml, hown, ht⟩ (k_X12_no l _ D a (upd zI0 0 0) 0 2 (by decide)) (cwV 2 ht (zG_V zw_30 zw_31 zw_32 zw_2 zw_33) rfl rfl rfl (by decide +kernel) ⟨Nat.le_of_ble_eq_true rfl, Nat.le_of_ble_eq_true rfl⟩) (zM_V (va_recv hK hP (ci := 12) (q0 := 1) rfl rfl) hPc hKc hDc) rfl rfl hl.1 rfl (lv_room (Nat.le_of_ble_eq_true rfl)) dX12_end_17 ⟨Nat.le_of_ble_eq_true rfl, Nat.le_of_ble_eq_true rfl⟩) hS (fun q _ h => hFc q h) hFc (fun r_11 u_11 t H1 locs ht0 hvm hw_11 hB hz1 hk1 hS => ?_)
        obtain ⟨rfl, rfl⟩ := hw_11.1 rfl
        obtain ⟨hP1, hK1, hD1⟩ := hB
        rw [ht0] at hP1
        have hK1 := va_K.moved hvm.symm hK1
        obtain ⟨hP, hD⟩ := va_join (wr := [((a 1), .inl (cI, 6792, .inl zI0))]) (w1 := [((a 0), .inr (12, zMo a (upd zI0 0 2)))]) hP hD [1] [0] rfl rfl (by decide) (by decide) hk1 hFc hP1 hD1
        generalize H1 = H at hP hS ⊢
        have hP : va_P D vwCl [((a 1), .inl (cI, 6792, .inl zI0)), ((a 0), .inr (12, zMo a (upd zI0 0 2)))] H := hP
        have hD : va_D A [((a 1), .inl (cI, 6792, .inl zI0)), ((a 0), .inr (12, zMo a (upd zI0 0 2)))] := hD
        refine lv_if_ne (tgt := 43) hx hb dX12_end_20 (by decide) (fun c_12 => ?_) (fun c_12 => ?_)
        · skip
          refine lv_iconst (v := 0) hx hb dX12_end_43 (by decide) ?_
          have hP9 := hP.sub (ws' := [((a 0), .inr (12, zMo a (upd zI0 0 2)))]) [1] rfl
          have hD9 := hD.sub (ws' := [((a 0), .inr (12, zMo a (upd zI0 0 2)))]) [1] (by decide) rfl
          have hK9 := hK.sub (tys' := []) [] rfl
          refine W.widen (k := 0) (n := 0) (Nat.le_of_ble_eq_true rfl) (Nat.le_of_ble_eq_true rfl) ?_
          exact W.iret (v := 0) hx hb hr (fun t ht0 hW => ⟨⟨0, upd zI0 0 2, rfl, (show zS_end p0 p1 2 0 from (.inr (.inl ⟨rfl, by omega⟩))), (zE_of hP9 hK9 hD9 ht0 hW)⟩, hS.F ht0⟩) hS.2.2 dX12_end_44
        · skip
          exact absurd c_12 (by decide)
  · skip
    have hPc := hP.sub (ws' := [((a 0), .inr (12, zMo a zI0))]) [0] rfl
    have hDc := hD.sub (ws' := [((a 0), .inr (12, zMo a zI0))]) [0] (by decide) rfl
    have hKc := hK.sub (tys' := []) [] rfl
    have hFc := va_free (wc := [((a 0), .inr (12, zMo a zI0))]) hD hS hA [0] rfl
    refine va_calli (va_runV (As := [.int 0]) (rest := []) ⟨hx, hb, hml, hown, ht⟩ (k_X12_lacks l _ D a zI0 0 (by decide)) (cwV 1 ht (zG_V zw_62 zw_63 zw_64 zw_2 zw_65) rfl rfl rfl (by decide +kernel) ⟨Nat.le_of_ble_eq_true rfl, Nat.le_of_ble_eq_true rfl⟩) (zM_V (va_recv hK hP (ci := 12) (q0 := 0) rfl rfl) hPc hKc hDc) rfl rfl hl.1 rfl (lv_room (Nat.le_of_ble_eq_true rfl)) dX12_end_5 ⟨Nat.le_of_ble_eq_true rfl, Nat.le_of_ble_eq_true rfl⟩) hS (fun q _ h => hFc q h) hFc (fun r_13 u_13 t H1 locs ht0 hvm hw_13 hB hz1 hk1 hS => ?_)
    obtain ⟨rfl, rfl⟩ := hw_13.1 rfl
    obtain ⟨hP1, hK1, hD1⟩ := hB
    rw [ht0] at hP1
    have hK1 := va_K.moved hvm.symm hK1
    obtain ⟨hP, hD⟩ := va_join (wr := [((a 1), .inl (cI, 6792, .inl zI0))]) (w1 := [((a 0), .inr (12, zMo a (upd zI0 0 1)))]) hP hD [0] [1] rfl rfl (by decide) (by decide) hk1 hFc hP1 hD1
    generalize H1 = H at hP hS ⊢
    have hP : va_P D vwCl [((a 1), .inl (cI, 6792, .inl zI0)), ((a 0), .inr (12, zMo a (upd zI0 0 1)))] H := hP
    have hD : va_D A [((a 1), .inl (cI, 6792, .inl zI0)), ((a 0), .inr (12, zMo a (upd zI0 0 1)))] := hD
    refine lv_if_ne (tgt := 43) hx hb dX12_end_8 (by decide) (fun c_14 => ?_) (fun c_14 => ?_)
    · skip
      refine lv_iconst (v := 0) hx hb dX12_end_43 (by decide) ?_
      have hP9 := hP.sub (ws' := [((a 0), .inr (12, zMo a (upd zI0 0 1)))]) [1] rfl
      have hD9 := hD.sub (ws' := [((a 0), .inr (12, zMo a (upd zI0 0 1)))]) [1] (by decide) rfl
      have hK9 := hK.sub (tys' := []) [] rfl
      refine W.widen (k := 0) (n := 0) (Nat.le_of_ble_eq_true rfl) (Nat.le_of_ble_eq_true rfl) ?_
      exact W.iret (v := 0) hx hb hr (fun t ht0 hW => ⟨⟨0, upd zI0 0 1, rfl, (show zS_end p0 p1 1 0 from (.inl ⟨rfl, by omega⟩)), (zE_of hP9 hK9 hD9 ht0 hW)⟩, hS.F ht0⟩) hS.2.2 dX12_end_44
    · skip
      exact absurd c_14 (by decide)
set_option maxHeartbeats 4000000 in
set_option maxRecDepth 100000 in
theorem k_X12_across (l : Launch) (sz : Nat) (D : va_G) (a : Nat → Nat) (cI : ClassId) (p0 p1 p2 p3 : Int32) : Met l yX12_across (.code yX12_across cX12_across 14 (some .int) :: zT) ({ frames := 2, cells := 0, slots := 0, locals := 43 }) (va_Pc [.ref (a 0), .int p0, .int p1, .int p2, .int p3] (zM D [((a 0), .inr (12, zMo a zI0)), ((a 1), .inl (cI, 6792, .inl zI0))] [(cI, .int)] sz)) (va_Qi (fun (r : Int32) (u : Nat → Int32) => zS_across p0 p1 p2 p3 (u 0) r) (fun u t => zE D [(a 0, .inr (12, zMo a u))] [] (va_A [((a 0), .inr (12, zMo a zI0)), ((a 1), .inl (cI, 6792, .inl zI0))] sz) t) (va_A [((a 0), .inr (12, zMo a zI0)), ((a 1), .inl (cI, 6792, .inl zI0))] sz)) 0 0 (va_A [((a 0), .inr (12, zMo a zI0)), ((a 1), .inl (cI, 6792, .inl zI0))] sz) := by
  refine Met.ofW (cc := cX12_across) (maxL := 14) (ret := (some .int)) (by decide) rfl ?_
  intro p e s m args below meth c s₁ B hml hv
  obtain ⟨rfl, hsz, hP, hK, hD0⟩ := hv
  have hx := B.exec
  have hb := B.bytes
  have hr := B.returns
  have hts := atoms_spec (ws := (.code yX12_across cX12_across 14 (some .int) :: zT)) B.pre
  have ht : ∀ w ∈ zT, w.before _ s = true := fun w h => hts w (List.mem_cons_of_mem _ h)
  have hown : s.vm.findClass RX12 = some m.cls := findClass_of_methodNamed B.named
  have hlocks := B.notSynchronized
  subst hsz
  have hD := hD0.self (sz := s.heap.size)
  generalize hAe : va_A [((a 0), .inr (12, zMo a zI0)), ((a 1), .inl (cI, 6792, .inl zI0))] s.heap.size = A at hD ⊢
  have hA : ∀ q : Nat, s.heap.size ≤ q → A q := fun q h => by rw [← hAe]; exact Or.inr h
  have hS : va_S A s.heap s.heap [] := va_S.rf
  have hP : va_P D vwCl [((a 0), .inr (12, zMo a zI0)), ((a 1), .inl (cI, 6792, .inl zI0))] s.heap := hP
  have hl := lv_entry ([.ref (a 0), .int p0, .int p1, .int p2, .int p3]) (n := 14) (Nat.le_of_ble_eq_true rfl)
  rw [lg_entry_eq]
  generalize (lg_sl ([.ref (a 0), .int p0, .int p1, .int p2, .int p3]) ++ List.replicate (14 - (lg_sl ([.ref (a 0), .int p0, .int p1, .int p2, .int p3])).length) Slot.unset).toArray = ls at hl ⊢
  have hl : lv_has ls 14 [(0, .ref (a 0)), (1, .int p0), (2, .int p1), (3, .int p2), (4, .int p3)] := hl
  skip
  refine lv_aload_n hx hb dX12_across_0 rfl (lv_at hl 0 rfl) ?_
  refine lv_iload_n hx hb dX12_across_1 rfl (lv_at hl 2 rfl) ?_
  refine vp_callSi (va_runV (As := [.int p1]) (rest := []) ⟨hx, hb, hml, hown, ht⟩ (k_X12_atLaw l D a zI0 cI p1) (cwV 1 ht (zG_V zw_73 zw_74 zw_75 zw_2 zw_76) rfl rfl rfl (by decide +kernel) ⟨Nat.le_of_ble_eq_true rfl, Nat.le_of_ble_eq_true rfl⟩) (zR_V (va_recv hK hP (ci := 12) (q0 := 0) rfl rfl) hP hK) rfl rfl hl.1 rfl (lv_room (Nat.le_of_ble_eq_true rfl)) dX12_across_2 ⟨Nat.le_of_ble_eq_true rfl, Nat.le_of_ble_eq_true rfl⟩).run (fun r_1 hw_1 => ?_)
  obtain rfl : r_1 = (-1) := hw_1
  refine lv_istore (lv' := [(5, .int (-1)), (0, .ref (a 0)), (1, .int p0), (2, .int p1), (3, .int p2), (4, .int p3)]) hx hb dX12_across_5 hl (by decide) rfl (fun ls hl => ?_)
  refine lv_aload_n hx hb dX12_across_7 rfl (lv_at hl 1 rfl) ?_
  refine lv_iload_n hx hb dX12_across_8 rfl (lv_at hl 4 rfl) ?_
  refine vp_callSi (va_runV (As := [.int p2]) (rest := []) ⟨hx, hb, hml, hown, ht⟩ (k_X12_atEquivalence l D a zI0 cI p2) (cwV 1 ht (zG_V zw_99 zw_100 zw_101 zw_2 zw_102) rfl rfl rfl (by decide +kernel) ⟨Nat.le_of_ble_eq_true rfl, Nat.le_of_ble_eq_true rfl⟩) (zR_V (va_recv hK hP (ci := 12) (q0 := 0) rfl rfl) hP hK) rfl rfl hl.1 rfl (lv_room (Nat.le_of_ble_eq_true rfl)) dX12_across_9 ⟨Nat.le_of_ble_eq_true rfl, Nat.le_of_ble_eq_true rfl⟩).run (fun r_2 hw_2 => ?_)
  obtain rfl : r_2 = (-1) := hw_2
  refine lv_istore (lv' := [(6, .int (-1)), (5, .int (-1)), (0, .ref (a 0)), (1, .int p0), (2, .int p1), (3, .int p2), (4, .int p3)]) hx hb dX12_across_12 hl (by decide) rfl (fun ls hl => ?_)
  refine lv_aload_n hx hb dX12_across_14 rfl (lv_at hl 2 rfl) ?_
  refine lv_iload_n hx hb dX12_across_15 rfl (lv_at hl 3 rfl) ?_
  refine vp_callSi (va_runS (As := [.int p0]) (rest := [.ref (a 0)]) ⟨hx, hb, hml, hown, ht⟩ (k_X12_isName l p0) (va_cwS 1 ht (zG_S zw_66 zw_67 zw_2 zw_68) rfl rfl rfl (by decide +kernel) ⟨Nat.le_of_ble_eq_true rfl, Nat.le_of_ble_eq_true rfl⟩) zN_S rfl rfl hl.1 rfl (lv_room (Nat.le_of_ble_eq_true rfl)) dX12_across_16 ⟨Nat.le_of_ble_eq_true rfl, Nat.le_of_ble_eq_true rfl⟩).run (fun r_3 hw_3 => ?_)
  rcases hw_3 with ⟨rfl, h_3⟩ | ⟨rfl, h_3⟩
  · skip
    have hPc := hP.sub (ws' := [((a 0), .inr (12, zMo a zI0))]) [0] rfl
    have hDc := hD.sub (ws' := [((a 0), .inr (12, zMo a zI0))]) [0] (by decide) rfl
    have hKc := hK.sub (tys' := []) [] rfl
    have hFc := va_free (wc := [((a 0), .inr (12, zMo a zI0))]) hD hS hA [0] rfl
    refine va_calli (va_runV (As := [.int 1]) (rest := []) ⟨hx, hb, hml, hown, ht⟩ (k_X12_lacks l _ D a zI0 1 (by decide)) (cwV 1 ht (zG_V zw_62 zw_63 zw_64 zw_2 zw_65) rfl rfl rfl (by decide +kernel) ⟨Nat.le_of_ble_eq_true rfl, Nat.le_of_ble_eq_true rfl⟩) (zM_V (va_recv hK hP (ci := 12) (q0 := 0) rfl rfl) hPc hKc hDc) rfl rfl hl.1 rfl (lv_room (Nat.le_of_ble_eq_true rfl)) dX12_across_19 ⟨Nat.le_of_ble_eq_true rfl, Nat.le_of_ble_eq_true rfl⟩) hS (fun q _ h => hFc q h) hFc (fun r_4 u_4 t H1 locs ht0 hvm hw_4 hB hz1 hk1 hS => ?_)
    obtain ⟨rfl, rfl⟩ := hw_4.2 (by decide)
    obtain ⟨hP1, hK1, hD1⟩ := hB
    rw [ht0] at hP1
    have hK1 := va_K.moved hvm.symm hK1
    obtain ⟨hP, hD⟩ := va_join (wr := [((a 1), .inl (cI, 6792, .inl zI0))]) (w1 := [((a 0), .inr (12, zMo a (upd zI0 0 0)))]) hP hD [0] [1] rfl rfl (by decide) (by decide) hk1 hFc hP1 hD1
    generalize H1 = H at hP hS ⊢
    have hP : va_P D vwCl [((a 1), .inl (cI, 6792, .inl zI0)), ((a 0), .inr (12, zMo a (upd zI0 0 0)))] H := hP
    have hD : va_D A [((a 1), .inl (cI, 6792, .inl zI0)), ((a 0), .inr (12, zMo a (upd zI0 0 0)))] := hD
    refine lv_if_ne (tgt := 50) hx hb dX12_across_22 (by decide) (fun c_5 => ?_) (fun c_5 => ?_)
    · skip
      exact absurd c_5 (by decide)
    · skip
      refine lv_aload_n hx hb dX12_across_25 rfl (lv_at hl 2 rfl) ?_
      refine lv_iload hx hb dX12_across_26 (lv_at hl 1 rfl) ?_
      refine lv_iconst (v := (-1)) hx hb dX12_across_28 (by decide) ?_
      refine lv_icmp_eq (tgt := 42) hx hb dX12_across_29 (by decide) (fun c_6 => ?_) (fun c_6 => ?_)
      · skip
        refine lv_iconst (v := 0) hx hb dX12_across_42 (by decide) ?_
        refine lv_iconst (v := 2) hx hb dX12_across_43 (by decide) ?_
        have hPc := hP.sub (ws' := [((a 0), .inr (12, zMo a (upd zI0 0 0)))]) [1] rfl
        have hDc := hD.sub (ws' := [((a 0), .inr (12, zMo a (upd zI0 0 0)))]) [1] (by decide) rfl
        have hKc := hK.sub (tys' := []) [] rfl
        have hFc := va_free (wc := [((a 0), .inr (12, zMo a (upd zI0 0 0)))]) hD hS hA [1] rfl
        refine va_calli (va_runV (As := [.int 0, .int 2]) (rest := []) ⟨hx, hb, hml, hown, ht⟩ (k_X12_no l _ D a (upd zI0 0 0) 0 2 (by decide)) (cwV 2 ht (zG_V zw_30 zw_31 zw_32 zw_2 zw_33) rfl rfl rfl (by decide +kernel) ⟨Nat.le_of_ble_eq_true rfl, Nat.le_of_ble_eq_true rfl⟩) (zM_V (va_recv hK hP (ci := 12) (q0 := 1) rfl rfl) hPc hKc hDc) rfl rfl hl.1 rfl (lv_room (Nat.le_of_ble_eq_true rfl)) dX12_across_44 ⟨Nat.le_of_ble_eq_true rfl, Nat.le_of_ble_eq_true rfl⟩) hS (fun q _ h => hFc q h) hFc (fun r_7 u_7 t H1 locs ht0 hvm hw_7 hB hz1 hk1 hS => ?_)
        obtain ⟨rfl, rfl⟩ := hw_7.1 rfl
        obtain ⟨hP1, hK1, hD1⟩ := hB
        rw [ht0] at hP1
        have hK1 := va_K.moved hvm.symm hK1
        obtain ⟨hP, hD⟩ := va_join (wr := [((a 1), .inl (cI, 6792, .inl zI0))]) (w1 := [((a 0), .inr (12, zMo a (upd zI0 0 2)))]) hP hD [1] [0] rfl rfl (by decide) (by decide) hk1 hFc hP1 hD1
        generalize H1 = H at hP hS ⊢
        have hP : va_P D vwCl [((a 1), .inl (cI, 6792, .inl zI0)), ((a 0), .inr (12, zMo a (upd zI0 0 2)))] H := hP
        have hD : va_D A [((a 1), .inl (cI, 6792, .inl zI0)), ((a 0), .inr (12, zMo a (upd zI0 0 2)))] := hD
        refine lv_if_eq (tgt := 52) hx hb dX12_across_47 (by decide) (fun c_8 => ?_) (fun c_8 => ?_)
        · skip
          exact absurd c_8 (by decide)
        · skip
          refine lv_iconst (v := 0) hx hb dX12_across_50 (by decide) ?_
          have hP9 := hP.sub (ws' := [((a 0), .inr (12, zMo a (upd zI0 0 2)))]) [1] rfl
          have hD9 := hD.sub (ws' := [((a 0), .inr (12, zMo a (upd zI0 0 2)))]) [1] (by decide) rfl
          have hK9 := hK.sub (tys' := []) [] rfl
          refine W.widen (k := 0) (n := 0) (Nat.le_of_ble_eq_true rfl) (Nat.le_of_ble_eq_true rfl) ?_
          exact W.iret (v := 0) hx hb hr (fun t ht0 hW => ⟨⟨0, upd zI0 0 2, rfl, (show zS_across p0 p1 p2 p3 2 0 from (.inr ⟨rfl, by omega⟩)), (zE_of hP9 hK9 hD9 ht0 hW)⟩, hS.F ht0⟩) hS.2.2 dX12_across_51
      · skip
        exact absurd c_6 (by decide)
  · skip
    have hPc := hP.sub (ws' := [((a 0), .inr (12, zMo a zI0))]) [0] rfl
    have hDc := hD.sub (ws' := [((a 0), .inr (12, zMo a zI0))]) [0] (by decide) rfl
    have hKc := hK.sub (tys' := []) [] rfl
    have hFc := va_free (wc := [((a 0), .inr (12, zMo a zI0))]) hD hS hA [0] rfl
    refine va_calli (va_runV (As := [.int 0]) (rest := []) ⟨hx, hb, hml, hown, ht⟩ (k_X12_lacks l _ D a zI0 0 (by decide)) (cwV 1 ht (zG_V zw_62 zw_63 zw_64 zw_2 zw_65) rfl rfl rfl (by decide +kernel) ⟨Nat.le_of_ble_eq_true rfl, Nat.le_of_ble_eq_true rfl⟩) (zM_V (va_recv hK hP (ci := 12) (q0 := 0) rfl rfl) hPc hKc hDc) rfl rfl hl.1 rfl (lv_room (Nat.le_of_ble_eq_true rfl)) dX12_across_19 ⟨Nat.le_of_ble_eq_true rfl, Nat.le_of_ble_eq_true rfl⟩) hS (fun q _ h => hFc q h) hFc (fun r_9 u_9 t H1 locs ht0 hvm hw_9 hB hz1 hk1 hS => ?_)
    obtain ⟨rfl, rfl⟩ := hw_9.1 rfl
    obtain ⟨hP1, hK1, hD1⟩ := hB
    rw [ht0] at hP1
    have hK1 := va_K.moved hvm.symm hK1
    obtain ⟨hP, hD⟩ := va_join (wr := [((a 1), .inl (cI, 6792, .inl zI0))]) (w1 := [((a 0), .inr (12, zMo a (upd zI0 0 1)))]) hP hD [0] [1] rfl rfl (by decide) (by decide) hk1 hFc hP1 hD1
    generalize H1 = H at hP hS ⊢
    have hP : va_P D vwCl [((a 1), .inl (cI, 6792, .inl zI0)), ((a 0), .inr (12, zMo a (upd zI0 0 1)))] H := hP
    have hD : va_D A [((a 1), .inl (cI, 6792, .inl zI0)), ((a 0), .inr (12, zMo a (upd zI0 0 1)))] := hD
    refine lv_if_ne (tgt := 50) hx hb dX12_across_22 (by decide) (fun c_10 => ?_) (fun c_10 => ?_)
    · skip
      refine lv_iconst (v := 0) hx hb dX12_across_50 (by decide) ?_
      have hP9 := hP.sub (ws' := [((a 0), .inr (12, zMo a (upd zI0 0 1)))]) [1] rfl
      have hD9 := hD.sub (ws' := [((a 0), .inr (12, zMo a (upd zI0 0 1)))]) [1] (by decide) rfl
      have hK9 := hK.sub (tys' := []) [] rfl
      refine W.widen (k := 0) (n := 0) (Nat.le_of_ble_eq_true rfl) (Nat.le_of_ble_eq_true rfl) ?_
      exact W.iret (v := 0) hx hb hr (fun t ht0 hW => ⟨⟨0, upd zI0 0 1, rfl, (show zS_across p0 p1 p2 p3 1 0 from (.inl ⟨rfl, by omega⟩)), (zE_of hP9 hK9 hD9 ht0 hW)⟩, hS.F ht0⟩) hS.2.2 dX12_across_51
    · skip
      exact absurd c_10 (by decide)
set_option maxHeartbeats 4000000 in
set_option maxRecDepth 100000 in
theorem k_X12_needs (l : Launch) (sz : Nat) (D : va_G) (a : Nat → Nat) (cI : ClassId) (p0 : Int32) : Met l yX12_needs (.code yX12_needs cX12_needs 6 (some .int) :: zT) ({ frames := 2, cells := 0, slots := 0, locals := 43 }) (va_Pc [.ref (a 0), .int p0] (zM D [((a 0), .inr (12, zMo a zI0)), ((a 1), .inl (cI, 6792, .inl zI0))] [(cI, .int)] sz)) (va_Qi (fun (r : Int32) (u : Nat → Int32) => zS_needs p0 (u 0) r) (fun u t => zE D [(a 0, .inr (12, zMo a u))] [] (va_A [((a 0), .inr (12, zMo a zI0)), ((a 1), .inl (cI, 6792, .inl zI0))] sz) t) (va_A [((a 0), .inr (12, zMo a zI0)), ((a 1), .inl (cI, 6792, .inl zI0))] sz)) 0 0 (va_A [((a 0), .inr (12, zMo a zI0)), ((a 1), .inl (cI, 6792, .inl zI0))] sz) := by
  refine Met.ofW (cc := cX12_needs) (maxL := 6) (ret := (some .int)) (by decide) rfl ?_
  intro p e s m args below meth c s₁ B hml hv
  obtain ⟨rfl, hsz, hP, hK, hD0⟩ := hv
  have hx := B.exec
  have hb := B.bytes
  have hr := B.returns
  have hts := atoms_spec (ws := (.code yX12_needs cX12_needs 6 (some .int) :: zT)) B.pre
  have ht : ∀ w ∈ zT, w.before _ s = true := fun w h => hts w (List.mem_cons_of_mem _ h)
  have hown : s.vm.findClass RX12 = some m.cls := findClass_of_methodNamed B.named
  have hlocks := B.notSynchronized
  subst hsz
  have hD := hD0.self (sz := s.heap.size)
  generalize hAe : va_A [((a 0), .inr (12, zMo a zI0)), ((a 1), .inl (cI, 6792, .inl zI0))] s.heap.size = A at hD ⊢
  have hA : ∀ q : Nat, s.heap.size ≤ q → A q := fun q h => by rw [← hAe]; exact Or.inr h
  have hS : va_S A s.heap s.heap [] := va_S.rf
  have hP : va_P D vwCl [((a 0), .inr (12, zMo a zI0)), ((a 1), .inl (cI, 6792, .inl zI0))] s.heap := hP
  have hl := lv_entry ([.ref (a 0), .int p0]) (n := 6) (Nat.le_of_ble_eq_true rfl)
  rw [lg_entry_eq]
  generalize (lg_sl ([.ref (a 0), .int p0]) ++ List.replicate (6 - (lg_sl ([.ref (a 0), .int p0])).length) Slot.unset).toArray = ls at hl ⊢
  have hl : lv_has ls 6 [(0, .ref (a 0)), (1, .int p0)] := hl
  skip
  refine lv_aload_n hx hb dX12_needs_0 rfl (lv_at hl 0 rfl) ?_
  refine lv_iload_n hx hb dX12_needs_1 rfl (lv_at hl 1 rfl) ?_
  refine vp_callSi (va_runS (As := [.int p0]) (rest := [.ref (a 0)]) ⟨hx, hb, hml, hown, ht⟩ (k_X12_isChain l p0) (va_cwS 1 ht (zG_S zw_77 zw_78 zw_2 zw_79) rfl rfl rfl (by decide +kernel) ⟨Nat.le_of_ble_eq_true rfl, Nat.le_of_ble_eq_true rfl⟩) zN_S rfl rfl hl.1 rfl (lv_room (Nat.le_of_ble_eq_true rfl)) dX12_needs_2 ⟨Nat.le_of_ble_eq_true rfl, Nat.le_of_ble_eq_true rfl⟩).run (fun r_1 hw_1 => ?_)
  rcases hw_1 with ⟨rfl, h_1⟩ | ⟨rfl, h_1⟩
  · skip
    have hPc := hP.sub (ws' := [((a 0), .inr (12, zMo a zI0))]) [0] rfl
    have hDc := hD.sub (ws' := [((a 0), .inr (12, zMo a zI0))]) [0] (by decide) rfl
    have hKc := hK.sub (tys' := []) [] rfl
    have hFc := va_free (wc := [((a 0), .inr (12, zMo a zI0))]) hD hS hA [0] rfl
    refine va_calli (va_runV (As := [.int 1]) (rest := []) ⟨hx, hb, hml, hown, ht⟩ (k_X12_lacks l _ D a zI0 1 (by decide)) (cwV 1 ht (zG_V zw_62 zw_63 zw_64 zw_2 zw_65) rfl rfl rfl (by decide +kernel) ⟨Nat.le_of_ble_eq_true rfl, Nat.le_of_ble_eq_true rfl⟩) (zM_V (va_recv hK hP (ci := 12) (q0 := 0) rfl rfl) hPc hKc hDc) rfl rfl hl.1 rfl (lv_room (Nat.le_of_ble_eq_true rfl)) dX12_needs_5 ⟨Nat.le_of_ble_eq_true rfl, Nat.le_of_ble_eq_true rfl⟩) hS (fun q _ h => hFc q h) hFc (fun r_2 u_2 t H1 locs ht0 hvm hw_2 hB hz1 hk1 hS => ?_)
    obtain ⟨rfl, rfl⟩ := hw_2.2 (by decide)
    obtain ⟨hP1, hK1, hD1⟩ := hB
    rw [ht0] at hP1
    have hK1 := va_K.moved hvm.symm hK1
    obtain ⟨hP, hD⟩ := va_join (wr := [((a 1), .inl (cI, 6792, .inl zI0))]) (w1 := [((a 0), .inr (12, zMo a (upd zI0 0 0)))]) hP hD [0] [1] rfl rfl (by decide) (by decide) hk1 hFc hP1 hD1
    generalize H1 = H at hP hS ⊢
    have hP : va_P D vwCl [((a 1), .inl (cI, 6792, .inl zI0)), ((a 0), .inr (12, zMo a (upd zI0 0 0)))] H := hP
    have hD : va_D A [((a 1), .inl (cI, 6792, .inl zI0)), ((a 0), .inr (12, zMo a (upd zI0 0 0)))] := hD
    refine lv_if_eq (tgt := 13) hx hb dX12_needs_8 (by decide) (fun c_3 => ?_) (fun c_3 => ?_)
    · skip
      refine lv_iconst (v := 0) hx hb dX12_needs_13 (by decide) ?_
      refine lv_istore_n (lv' := [(2, .int 0), (0, .ref (a 0)), (1, .int p0)]) hx hb dX12_needs_14 rfl hl (by decide) rfl (fun ls hl => ?_)
      refine lv_iconst (v := 1) hx hb dX12_needs_15 (by decide) ?_
      refine lv_istore_n (lv' := [(3, .int 1), (2, .int 0), (0, .ref (a 0)), (1, .int p0)]) hx hb dX12_needs_16 rfl hl (by decide) rfl (fun ls hl => ?_)
      refine lv_iload_n hx hb dX12_needs_17 rfl (lv_at hl 0 rfl) ?_
      refine lv_aload_n hx hb dX12_needs_18 rfl (lv_at hl 2 rfl) ?_
      refine lv_iload_n hx hb dX12_needs_19 rfl (lv_at hl 3 rfl) ?_
      refine vp_callSi (va_runV (As := [.int p0]) (rest := [.int 1]) ⟨hx, hb, hml, hown, ht⟩ (k_X12_linesOf l D a (upd zI0 0 0) cI p0 h_1) (cwV 1 ht (zG_V zw_47 zw_48 zw_49 zw_2 zw_50) rfl rfl rfl (by decide +kernel) ⟨Nat.le_of_ble_eq_true rfl, Nat.le_of_ble_eq_true rfl⟩) (zR_V (va_recv hK hP (ci := 12) (q0 := 1) rfl rfl) (hP.sub (ws' := [((a 0), .inr (12, zMo a (upd zI0 0 0))), ((a 1), .inl (cI, 6792, .inl zI0))]) [1, 0] rfl) hK) rfl rfl hl.1 rfl (lv_room (Nat.le_of_ble_eq_true rfl)) dX12_needs_20 ⟨Nat.le_of_ble_eq_true rfl, Nat.le_of_ble_eq_true rfl⟩).run (fun r_4 hw_4 => ?_)
      obtain rfl : r_4 = 0 := hw_4
      refine lv_icmp_ge (tgt := 91) hx hb dX12_needs_23 (by decide) (fun c_5 => ?_) (fun c_5 => ?_)
      · skip
        refine lv_iload_n hx hb dX12_needs_91 rfl (lv_at hl 1 rfl) ?_
        have hP9 := hP.sub (ws' := [((a 0), .inr (12, zMo a (upd zI0 0 0)))]) [1] rfl
        have hD9 := hD.sub (ws' := [((a 0), .inr (12, zMo a (upd zI0 0 0)))]) [1] (by decide) rfl
        have hK9 := hK.sub (tys' := []) [] rfl
        refine W.widen (k := 0) (n := 0) (Nat.le_of_ble_eq_true rfl) (Nat.le_of_ble_eq_true rfl) ?_
        exact W.iret (v := 0) hx hb hr (fun t ht0 hW => ⟨⟨0, upd zI0 0 0, rfl, (show zS_needs p0 0 0 from (.inr ⟨rfl, by omega, rfl⟩)), (zE_of hP9 hK9 hD9 ht0 hW)⟩, hS.F ht0⟩) hS.2.2 dX12_needs_92
      · skip
        exact absurd c_5 (by decide)
    · skip
      exact absurd c_3 (by decide)
  · skip
    have hPc := hP.sub (ws' := [((a 0), .inr (12, zMo a zI0))]) [0] rfl
    have hDc := hD.sub (ws' := [((a 0), .inr (12, zMo a zI0))]) [0] (by decide) rfl
    have hKc := hK.sub (tys' := []) [] rfl
    have hFc := va_free (wc := [((a 0), .inr (12, zMo a zI0))]) hD hS hA [0] rfl
    refine va_calli (va_runV (As := [.int 0]) (rest := []) ⟨hx, hb, hml, hown, ht⟩ (k_X12_lacks l _ D a zI0 0 (by decide)) (cwV 1 ht (zG_V zw_62 zw_63 zw_64 zw_2 zw_65) rfl rfl rfl (by decide +kernel) ⟨Nat.le_of_ble_eq_true rfl, Nat.le_of_ble_eq_true rfl⟩) (zM_V (va_recv hK hP (ci := 12) (q0 := 0) rfl rfl) hPc hKc hDc) rfl rfl hl.1 rfl (lv_room (Nat.le_of_ble_eq_true rfl)) dX12_needs_5 ⟨Nat.le_of_ble_eq_true rfl, Nat.le_of_ble_eq_true rfl⟩) hS (fun q _ h => hFc q h) hFc (fun r_6 u_6 t H1 locs ht0 hvm hw_6 hB hz1 hk1 hS => ?_)
    obtain ⟨rfl, rfl⟩ := hw_6.1 rfl
    obtain ⟨hP1, hK1, hD1⟩ := hB
    rw [ht0] at hP1
    have hK1 := va_K.moved hvm.symm hK1
    obtain ⟨hP, hD⟩ := va_join (wr := [((a 1), .inl (cI, 6792, .inl zI0))]) (w1 := [((a 0), .inr (12, zMo a (upd zI0 0 1)))]) hP hD [0] [1] rfl rfl (by decide) (by decide) hk1 hFc hP1 hD1
    generalize H1 = H at hP hS ⊢
    have hP : va_P D vwCl [((a 1), .inl (cI, 6792, .inl zI0)), ((a 0), .inr (12, zMo a (upd zI0 0 1)))] H := hP
    have hD : va_D A [((a 1), .inl (cI, 6792, .inl zI0)), ((a 0), .inr (12, zMo a (upd zI0 0 1)))] := hD
    refine lv_if_eq (tgt := 13) hx hb dX12_needs_8 (by decide) (fun c_7 => ?_) (fun c_7 => ?_)
    · skip
      exact absurd c_7 (by decide)
    · skip
      refine lv_iconst (v := 0) hx hb dX12_needs_11 (by decide) ?_
      have hP9 := hP.sub (ws' := [((a 0), .inr (12, zMo a (upd zI0 0 1)))]) [1] rfl
      have hD9 := hD.sub (ws' := [((a 0), .inr (12, zMo a (upd zI0 0 1)))]) [1] (by decide) rfl
      have hK9 := hK.sub (tys' := []) [] rfl
      refine W.widen (k := 0) (n := 0) (Nat.le_of_ble_eq_true rfl) (Nat.le_of_ble_eq_true rfl) ?_
      exact W.iret (v := 0) hx hb hr (fun t ht0 hW => ⟨⟨0, upd zI0 0 1, rfl, (show zS_needs p0 1 0 from (.inl ⟨rfl, by omega⟩)), (zE_of hP9 hK9 hD9 ht0 hW)⟩, hS.F ht0⟩) hS.2.2 dX12_needs_12
set_option maxHeartbeats 4000000 in
set_option maxRecDepth 100000 in
theorem k_X12_restore (l : Launch) (sz : Nat) (D : va_G) (a : Nat → Nat) (cI : ClassId) (p0 : Int32) (cZ : ClassId) : Met l yX12_restore (.code yX12_restore cX12_restore 2 (some .int) :: zT) ({ frames := 2, cells := 0, slots := 0, locals := 43 }) (va_Pc [.ref (a 0), .int p0] (zM D [((a 0), .inr (12, zMo a zI0)), ((a 1), .inl (cI, 6792, .inl zI0)), ((a 4), .inl (cZ, 2, .inl zI0))] [(cI, .int), (cZ, .boolean)] sz)) (va_Qi (fun (r : Int32) (u : Nat → Int32) => zS_restore p0 (u 0) r) (fun u t => zE D [(a 0, .inr (12, zMo a u))] [] (va_A [((a 0), .inr (12, zMo a zI0)), ((a 1), .inl (cI, 6792, .inl zI0)), ((a 4), .inl (cZ, 2, .inl zI0))] sz) t) (va_A [((a 0), .inr (12, zMo a zI0)), ((a 1), .inl (cI, 6792, .inl zI0)), ((a 4), .inl (cZ, 2, .inl zI0))] sz)) 0 0 (va_A [((a 0), .inr (12, zMo a zI0)), ((a 1), .inl (cI, 6792, .inl zI0)), ((a 4), .inl (cZ, 2, .inl zI0))] sz) := by
  refine Met.ofW (cc := cX12_restore) (maxL := 2) (ret := (some .int)) (by decide) rfl ?_
  intro p e s m args below meth c s₁ B hml hv
  obtain ⟨rfl, hsz, hP, hK, hD0⟩ := hv
  have hx := B.exec
  have hb := B.bytes
  have hr := B.returns
  have hts := atoms_spec (ws := (.code yX12_restore cX12_restore 2 (some .int) :: zT)) B.pre
  have ht : ∀ w ∈ zT, w.before _ s = true := fun w h => hts w (List.mem_cons_of_mem _ h)
  have hown : s.vm.findClass RX12 = some m.cls := findClass_of_methodNamed B.named
  have hlocks := B.notSynchronized
  subst hsz
  have hD := hD0.self (sz := s.heap.size)
  generalize hAe : va_A [((a 0), .inr (12, zMo a zI0)), ((a 1), .inl (cI, 6792, .inl zI0)), ((a 4), .inl (cZ, 2, .inl zI0))] s.heap.size = A at hD ⊢
  have hA : ∀ q : Nat, s.heap.size ≤ q → A q := fun q h => by rw [← hAe]; exact Or.inr h
  have hS : va_S A s.heap s.heap [] := va_S.rf
  have hP : va_P D vwCl [((a 0), .inr (12, zMo a zI0)), ((a 1), .inl (cI, 6792, .inl zI0)), ((a 4), .inl (cZ, 2, .inl zI0))] s.heap := hP
  have hl := lv_entry ([.ref (a 0), .int p0]) (n := 2) (Nat.le_of_ble_eq_true rfl)
  rw [lg_entry_eq]
  generalize (lg_sl ([.ref (a 0), .int p0]) ++ List.replicate (2 - (lg_sl ([.ref (a 0), .int p0])).length) Slot.unset).toArray = ls at hl ⊢
  have hl : lv_has ls 2 [(0, .ref (a 0)), (1, .int p0)] := hl
  skip
  refine lv_aload_n hx hb dX12_restore_0 rfl (lv_at hl 0 rfl) ?_
  refine lv_iload_n hx hb dX12_restore_1 rfl (lv_at hl 1 rfl) ?_
  refine lv_iconst (v := 0) hx hb dX12_restore_2 (by decide) ?_
  refine lv_iconst (v := 1) hx hb dX12_restore_3 (by decide) ?_
  refine vp_callSi (va_runS (As := [.int p0, .int 0, .int 1]) (rest := [.ref (a 0)]) ⟨hx, hb, hml, hown, ht⟩ (k_X12_in l p0 0 1) (va_cwS 3 ht (zG_S zw_0 zw_1 zw_2 zw_3) rfl rfl rfl (by decide +kernel) ⟨Nat.le_of_ble_eq_true rfl, Nat.le_of_ble_eq_true rfl⟩) zN_S rfl rfl hl.1 rfl (lv_room (Nat.le_of_ble_eq_true rfl)) dX12_restore_4 ⟨Nat.le_of_ble_eq_true rfl, Nat.le_of_ble_eq_true rfl⟩).run (fun r_1 hw_1 => ?_)
  rcases hw_1 with ⟨rfl, h_1⟩ | ⟨rfl, h_1⟩
  · skip
    simp only [Int32.reduceToInt] at h_1
    have hPc := hP.sub (ws' := [((a 0), .inr (12, zMo a zI0))]) [0] rfl
    have hDc := hD.sub (ws' := [((a 0), .inr (12, zMo a zI0))]) [0] (by decide) rfl
    have hKc := hK.sub (tys' := []) [] rfl
    have hFc := va_free (wc := [((a 0), .inr (12, zMo a zI0))]) hD hS hA [0] rfl
    refine va_calli (va_runV (As := [.int 1]) (rest := []) ⟨hx, hb, hml, hown, ht⟩ (k_X12_lacks l _ D a zI0 1 (by decide)) (cwV 1 ht (zG_V zw_62 zw_63 zw_64 zw_2 zw_65) rfl rfl rfl (by decide +kernel) ⟨Nat.le_of_ble_eq_true rfl, Nat.le_of_ble_eq_true rfl⟩) (zM_V (va_recv hK hP (ci := 12) (q0 := 0) rfl rfl) hPc hKc hDc) rfl rfl hl.1 rfl (lv_room (Nat.le_of_ble_eq_true rfl)) dX12_restore_7 ⟨Nat.le_of_ble_eq_true rfl, Nat.le_of_ble_eq_true rfl⟩) hS (fun q _ h => hFc q h) hFc (fun r_2 u_2 t H1 locs ht0 hvm hw_2 hB hz1 hk1 hS => ?_)
    obtain ⟨rfl, rfl⟩ := hw_2.2 (by decide)
    obtain ⟨hP1, hK1, hD1⟩ := hB
    rw [ht0] at hP1
    have hK1 := va_K.moved hvm.symm hK1
    obtain ⟨hP, hD⟩ := va_join (wr := [((a 1), .inl (cI, 6792, .inl zI0)), ((a 4), .inl (cZ, 2, .inl zI0))]) (w1 := [((a 0), .inr (12, zMo a (upd zI0 0 0)))]) hP hD [0] [1, 2] rfl rfl (by decide) (by decide) hk1 hFc hP1 hD1
    generalize H1 = H at hP hS ⊢
    have hP : va_P D vwCl [((a 1), .inl (cI, 6792, .inl zI0)), ((a 4), .inl (cZ, 2, .inl zI0)), ((a 0), .inr (12, zMo a (upd zI0 0 0)))] H := hP
    have hD : va_D A [((a 1), .inl (cI, 6792, .inl zI0)), ((a 4), .inl (cZ, 2, .inl zI0)), ((a 0), .inr (12, zMo a (upd zI0 0 0)))] := hD
    refine lv_if_ne (tgt := 27) hx hb dX12_restore_10 (by decide) (fun c_3 => ?_) (fun c_3 => ?_)
    · skip
      exact absurd c_3 (by decide)
    · skip
      refine lv_aload_n hx hb dX12_restore_13 rfl (lv_at hl 0 rfl) ?_
      refine lv_aload_n hx hb dX12_restore_14 rfl (lv_at hl 0 rfl) ?_
      refine va_get (D := D) (ci := 12) (v := .ref (a 4)) (C := RX12) (T := TX12) (N := 25) hx hb ht zinX12 hown hK hP 2 rfl rfl 4 (by decide) (ht _ zw_103) (fun _ h9 => h9) rfl dX12_restore_15 ?_
      refine lv_iload_n hx hb dX12_restore_18 rfl (lv_at hl 1 rfl) ?_
      refine va_zald hx hb hK hP 1 1 rfl rfl (vp_in_iff.mpr ⟨h_1.1, by have hq := h_1.2; omega⟩) dX12_restore_19 ?_
      refine W.eq (g2 := F0 m 20 ls (.int 0 :: .ref (a 0) :: [])) rfl ?_
      refine lv_iconst (v := 2) hx hb dX12_restore_20 (by decide) ?_
      have hPc := hP.sub (ws' := [((a 0), .inr (12, zMo a (upd zI0 0 0)))]) [2] rfl
      have hDc := hD.sub (ws' := [((a 0), .inr (12, zMo a (upd zI0 0 0)))]) [2] (by decide) rfl
      have hKc := hK.sub (tys' := []) [] rfl
      have hFc := va_free (wc := [((a 0), .inr (12, zMo a (upd zI0 0 0)))]) hD hS hA [2] rfl
      refine va_calli (va_runV (As := [.int 0, .int 2]) (rest := []) ⟨hx, hb, hml, hown, ht⟩ (k_X12_no l _ D a (upd zI0 0 0) 0 2 (by decide)) (cwV 2 ht (zG_V zw_30 zw_31 zw_32 zw_2 zw_33) rfl rfl rfl (by decide +kernel) ⟨Nat.le_of_ble_eq_true rfl, Nat.le_of_ble_eq_true rfl⟩) (zM_V (va_recv hK hP (ci := 12) (q0 := 2) rfl rfl) hPc hKc hDc) rfl rfl hl.1 rfl (lv_room (Nat.le_of_ble_eq_true rfl)) dX12_restore_21 ⟨Nat.le_of_ble_eq_true rfl, Nat.le_of_ble_eq_true rfl⟩) hS (fun q _ h => hFc q h) hFc (fun r_5 u_5 t H1 locs ht0 hvm hw_5 hB hz1 hk1 hS => ?_)
      obtain ⟨rfl, rfl⟩ := hw_5.1 rfl
      obtain ⟨hP1, hK1, hD1⟩ := hB
      rw [ht0] at hP1
      have hK1 := va_K.moved hvm.symm hK1
      obtain ⟨hP, hD⟩ := va_join (wr := [((a 1), .inl (cI, 6792, .inl zI0)), ((a 4), .inl (cZ, 2, .inl zI0))]) (w1 := [((a 0), .inr (12, zMo a (upd zI0 0 2)))]) hP hD [2] [0, 1] rfl rfl (by decide) (by decide) hk1 hFc hP1 hD1
      generalize H1 = H at hP hS ⊢
      have hP : va_P D vwCl [((a 1), .inl (cI, 6792, .inl zI0)), ((a 4), .inl (cZ, 2, .inl zI0)), ((a 0), .inr (12, zMo a (upd zI0 0 2)))] H := hP
      have hD : va_D A [((a 1), .inl (cI, 6792, .inl zI0)), ((a 4), .inl (cZ, 2, .inl zI0)), ((a 0), .inr (12, zMo a (upd zI0 0 2)))] := hD
      refine lv_if_eq (tgt := 29) hx hb dX12_restore_24 (by decide) (fun c_6 => ?_) (fun c_6 => ?_)
      · skip
        exact absurd c_6 (by decide)
      · skip
        refine lv_iconst (v := 0) hx hb dX12_restore_27 (by decide) ?_
        have hP9 := hP.sub (ws' := [((a 0), .inr (12, zMo a (upd zI0 0 2)))]) [2] rfl
        have hD9 := hD.sub (ws' := [((a 0), .inr (12, zMo a (upd zI0 0 2)))]) [2] (by decide) rfl
        have hK9 := hK.sub (tys' := []) [] rfl
        refine W.widen (k := 0) (n := 0) (Nat.le_of_ble_eq_true rfl) (Nat.le_of_ble_eq_true rfl) ?_
        exact W.iret (v := 0) hx hb hr (fun t ht0 hW => ⟨⟨0, upd zI0 0 2, rfl, (show zS_restore p0 2 0 from (.inr ⟨rfl, by omega⟩)), (zE_of hP9 hK9 hD9 ht0 hW)⟩, hS.F ht0⟩) hS.2.2 dX12_restore_28
  · skip
    simp only [Int32.reduceToInt] at h_1
    have hPc := hP.sub (ws' := [((a 0), .inr (12, zMo a zI0))]) [0] rfl
    have hDc := hD.sub (ws' := [((a 0), .inr (12, zMo a zI0))]) [0] (by decide) rfl
    have hKc := hK.sub (tys' := []) [] rfl
    have hFc := va_free (wc := [((a 0), .inr (12, zMo a zI0))]) hD hS hA [0] rfl
    refine va_calli (va_runV (As := [.int 0]) (rest := []) ⟨hx, hb, hml, hown, ht⟩ (k_X12_lacks l _ D a zI0 0 (by decide)) (cwV 1 ht (zG_V zw_62 zw_63 zw_64 zw_2 zw_65) rfl rfl rfl (by decide +kernel) ⟨Nat.le_of_ble_eq_true rfl, Nat.le_of_ble_eq_true rfl⟩) (zM_V (va_recv hK hP (ci := 12) (q0 := 0) rfl rfl) hPc hKc hDc) rfl rfl hl.1 rfl (lv_room (Nat.le_of_ble_eq_true rfl)) dX12_restore_7 ⟨Nat.le_of_ble_eq_true rfl, Nat.le_of_ble_eq_true rfl⟩) hS (fun q _ h => hFc q h) hFc (fun r_7 u_7 t H1 locs ht0 hvm hw_7 hB hz1 hk1 hS => ?_)
    obtain ⟨rfl, rfl⟩ := hw_7.1 rfl
    obtain ⟨hP1, hK1, hD1⟩ := hB
    rw [ht0] at hP1
    have hK1 := va_K.moved hvm.symm hK1
    obtain ⟨hP, hD⟩ := va_join (wr := [((a 1), .inl (cI, 6792, .inl zI0)), ((a 4), .inl (cZ, 2, .inl zI0))]) (w1 := [((a 0), .inr (12, zMo a (upd zI0 0 1)))]) hP hD [0] [1, 2] rfl rfl (by decide) (by decide) hk1 hFc hP1 hD1
    generalize H1 = H at hP hS ⊢
    have hP : va_P D vwCl [((a 1), .inl (cI, 6792, .inl zI0)), ((a 4), .inl (cZ, 2, .inl zI0)), ((a 0), .inr (12, zMo a (upd zI0 0 1)))] H := hP
    have hD : va_D A [((a 1), .inl (cI, 6792, .inl zI0)), ((a 4), .inl (cZ, 2, .inl zI0)), ((a 0), .inr (12, zMo a (upd zI0 0 1)))] := hD
    refine lv_if_ne (tgt := 27) hx hb dX12_restore_10 (by decide) (fun c_8 => ?_) (fun c_8 => ?_)
    · skip
      refine lv_iconst (v := 0) hx hb dX12_restore_27 (by decide) ?_
      have hP9 := hP.sub (ws' := [((a 0), .inr (12, zMo a (upd zI0 0 1)))]) [2] rfl
      have hD9 := hD.sub (ws' := [((a 0), .inr (12, zMo a (upd zI0 0 1)))]) [2] (by decide) rfl
      have hK9 := hK.sub (tys' := []) [] rfl
      refine W.widen (k := 0) (n := 0) (Nat.le_of_ble_eq_true rfl) (Nat.le_of_ble_eq_true rfl) ?_
      exact W.iret (v := 0) hx hb hr (fun t ht0 hW => ⟨⟨0, upd zI0 0 1, rfl, (show zS_restore p0 1 0 from (.inl ⟨rfl, by omega⟩)), (zE_of hP9 hK9 hD9 ht0 hW)⟩, hS.F ht0⟩) hS.2.2 dX12_restore_28
    · skip
      exact absurd c_8 (by decide)
set_option maxHeartbeats 4000000 in
set_option maxRecDepth 100000 in
theorem k_X12_sign (l : Launch) (sz : Nat) (D : va_G) (a : Nat → Nat) (cI : ClassId) (p0 p1 p2 : Int32) (cJ : ClassId) (fa : Nat → Option Nat) (ha : fa 0 = some (a 30)) : Met l yX12_sign (.code yX12_sign cX12_sign 5 (some .int) :: zT) ({ frames := 2, cells := 0, slots := 0, locals := 86 }) (va_Pc [.ref (a 0), .int p0, .int p1, .int p2] (zM D [((a 0), .inr (12, zMo a zI0)), ((a 1), .inl (cI, 6792, .inl zI0)), ((a 2), .inl (cJ, 8, .inr (.inr (.inr (.inr fa))))), ((a 30), .inl (cI, 6792, .inl zI0))] [(cI, .int), (cJ, .array .int)] sz)) (va_Qi (fun (r : Int32) (u : Nat → Int32) => zS_sign p0 p1 p2 (u 0) r) (fun u t => zE D [(a 0, .inr (12, zMo a u))] [] (va_A [((a 0), .inr (12, zMo a zI0)), ((a 1), .inl (cI, 6792, .inl zI0)), ((a 2), .inl (cJ, 8, .inr (.inr (.inr (.inr fa))))), ((a 30), .inl (cI, 6792, .inl zI0))] sz) t) (va_A [((a 0), .inr (12, zMo a zI0)), ((a 1), .inl (cI, 6792, .inl zI0)), ((a 2), .inl (cJ, 8, .inr (.inr (.inr (.inr fa))))), ((a 30), .inl (cI, 6792, .inl zI0))] sz)) 0 0 (va_A [((a 0), .inr (12, zMo a zI0)), ((a 1), .inl (cI, 6792, .inl zI0)), ((a 2), .inl (cJ, 8, .inr (.inr (.inr (.inr fa))))), ((a 30), .inl (cI, 6792, .inl zI0))] sz) := by
  refine Met.ofW (cc := cX12_sign) (maxL := 5) (ret := (some .int)) (by decide) rfl ?_
  intro p e s m args below meth c s₁ B hml hv
  obtain ⟨rfl, hsz, hP, hK, hD0⟩ := hv
  have hx := B.exec
  have hb := B.bytes
  have hr := B.returns
  have hts := atoms_spec (ws := (.code yX12_sign cX12_sign 5 (some .int) :: zT)) B.pre
  have ht : ∀ w ∈ zT, w.before _ s = true := fun w h => hts w (List.mem_cons_of_mem _ h)
  have hown : s.vm.findClass RX12 = some m.cls := findClass_of_methodNamed B.named
  have hlocks := B.notSynchronized
  subst hsz
  have hD := hD0.self (sz := s.heap.size)
  generalize hAe : va_A [((a 0), .inr (12, zMo a zI0)), ((a 1), .inl (cI, 6792, .inl zI0)), ((a 2), .inl (cJ, 8, .inr (.inr (.inr (.inr fa))))), ((a 30), .inl (cI, 6792, .inl zI0))] s.heap.size = A at hD ⊢
  have hA : ∀ q : Nat, s.heap.size ≤ q → A q := fun q h => by rw [← hAe]; exact Or.inr h
  have hS : va_S A s.heap s.heap [] := va_S.rf
  have hP : va_P D vwCl [((a 0), .inr (12, zMo a zI0)), ((a 1), .inl (cI, 6792, .inl zI0)), ((a 2), .inl (cJ, 8, .inr (.inr (.inr (.inr fa))))), ((a 30), .inl (cI, 6792, .inl zI0))] s.heap := hP
  have hl := lv_entry ([.ref (a 0), .int p0, .int p1, .int p2]) (n := 5) (Nat.le_of_ble_eq_true rfl)
  rw [lg_entry_eq]
  generalize (lg_sl ([.ref (a 0), .int p0, .int p1, .int p2]) ++ List.replicate (5 - (lg_sl ([.ref (a 0), .int p0, .int p1, .int p2])).length) Slot.unset).toArray = ls at hl ⊢
  have hl : lv_has ls 5 [(0, .ref (a 0)), (1, .int p0), (2, .int p1), (3, .int p2)] := hl
  skip
  refine lv_iload_n hx hb dX12_sign_0 rfl (lv_at hl 1 rfl) ?_
  refine lv_iconst (v := 0) hx hb dX12_sign_1 (by decide) ?_
  refine lv_iconst (v := 2) hx hb dX12_sign_2 (by decide) ?_
  refine vp_callSi (va_runS (As := [.int p0, .int 0, .int 2]) (rest := []) ⟨hx, hb, hml, hown, ht⟩ (k_X12_in l p0 0 2) (va_cwS 3 ht (zG_S zw_0 zw_1 zw_2 zw_3) rfl rfl rfl (by decide +kernel) ⟨Nat.le_of_ble_eq_true rfl, Nat.le_of_ble_eq_true rfl⟩) zN_S rfl rfl hl.1 rfl (lv_room (Nat.le_of_ble_eq_true rfl)) dX12_sign_3 ⟨Nat.le_of_ble_eq_true rfl, Nat.le_of_ble_eq_true rfl⟩).run (fun r_1 hw_1 => ?_)
  rcases hw_1 with ⟨rfl, h_1⟩ | ⟨rfl, h_1⟩
  · skip
    simp only [Int32.reduceToInt] at h_1
    refine lv_if_eq (tgt := 41) hx hb dX12_sign_6 (by decide) (fun c_2 => ?_) (fun c_2 => ?_)
    · skip
      exact absurd c_2 (by decide)
    · skip
      refine lv_iload_n hx hb dX12_sign_9 rfl (lv_at hl 1 rfl) ?_
      refine lv_iconst (v := 1) hx hb dX12_sign_10 (by decide) ?_
      refine lv_icmp_lt (tgt := 23) hx hb dX12_sign_11 (by decide) (fun c_3 => ?_) (fun c_3 => ?_)
      · skip
        simp only [fa_lt, fa_le, fa_eq, Int32.reduceToInt] at c_3
        refine lv_iload_n hx hb dX12_sign_23 rfl (lv_at hl 1 rfl) ?_
        refine lv_iconst (v := 2) hx hb dX12_sign_24 (by decide) ?_
        refine lv_icmp_lt (tgt := 37) hx hb dX12_sign_25 (by decide) (fun c_4 => ?_) (fun c_4 => ?_)
        · skip
          simp only [fa_lt, fa_le, fa_eq, Int32.reduceToInt] at c_4
          refine lv_iconst (v := 1) hx hb dX12_sign_37 (by decide) ?_
          refine lv_goto (tgt := 42) hx hb dX12_sign_38 (by decide) ?_
          refine lv_istore (lv' := [(4, .int 1), (0, .ref (a 0)), (1, .int p0), (2, .int p1), (3, .int p2)]) hx hb dX12_sign_42 hl (by decide) rfl (fun ls hl => ?_)
          refine lv_aload_n hx hb dX12_sign_44 rfl (lv_at hl 1 rfl) ?_
          refine lv_iload hx hb dX12_sign_45 (lv_at hl 0 rfl) ?_
          have hPc := hP.sub (ws' := [((a 0), .inr (12, zMo a zI0))]) [0] rfl
          have hDc := hD.sub (ws' := [((a 0), .inr (12, zMo a zI0))]) [0] (by decide) rfl
          have hKc := hK.sub (tys' := []) [] rfl
          have hFc := va_free (wc := [((a 0), .inr (12, zMo a zI0))]) hD hS hA [0] rfl
          refine va_calli (va_runV (As := [.int 1]) (rest := []) ⟨hx, hb, hml, hown, ht⟩ (k_X12_lacks l _ D a zI0 1 (by decide)) (cwV 1 ht (zG_V zw_62 zw_63 zw_64 zw_2 zw_65) rfl rfl rfl (by decide +kernel) ⟨Nat.le_of_ble_eq_true rfl, Nat.le_of_ble_eq_true rfl⟩) (zM_V (va_recv hK hP (ci := 12) (q0 := 0) rfl rfl) hPc hKc hDc) rfl rfl hl.1 rfl (lv_room (Nat.le_of_ble_eq_true rfl)) dX12_sign_47 ⟨Nat.le_of_ble_eq_true rfl, Nat.le_of_ble_eq_true rfl⟩) hS (fun q _ h => hFc q h) hFc (fun r_5 u_5 t H1 locs ht0 hvm hw_5 hB hz1 hk1 hS => ?_)
          obtain ⟨rfl, rfl⟩ := hw_5.2 (by decide)
          obtain ⟨hP1, hK1, hD1⟩ := hB
          rw [ht0] at hP1
          have hK1 := va_K.moved hvm.symm hK1
          obtain ⟨hP, hD⟩ := va_join (wr := [((a 1), .inl (cI, 6792, .inl zI0)), ((a 2), .inl (cJ, 8, .inr (.inr (.inr (.inr fa))))), ((a 30), .inl (cI, 6792, .inl zI0))]) (w1 := [((a 0), .inr (12, zMo a (upd zI0 0 0)))]) hP hD [0] [1, 2, 3] rfl rfl (by decide) (by decide) hk1 hFc hP1 hD1
          generalize H1 = H at hP hS ⊢
          have hP : va_P D vwCl [((a 1), .inl (cI, 6792, .inl zI0)), ((a 2), .inl (cJ, 8, .inr (.inr (.inr (.inr fa))))), ((a 30), .inl (cI, 6792, .inl zI0)), ((a 0), .inr (12, zMo a (upd zI0 0 0)))] H := hP
          have hD : va_D A [((a 1), .inl (cI, 6792, .inl zI0)), ((a 2), .inl (cJ, 8, .inr (.inr (.inr (.inr fa))))), ((a 30), .inl (cI, 6792, .inl zI0)), ((a 0), .inr (12, zMo a (upd zI0 0 0)))] := hD
          refine lv_if_ne (tgt := 76) hx hb dX12_sign_50 (by decide) (fun c_6 => ?_) (fun c_6 => ?_)
          · skip
            exact absurd c_6 (by decide)
          · skip
            refine lv_aload_n hx hb dX12_sign_53 rfl (lv_at hl 1 rfl) ?_
            refine lv_aload_n hx hb dX12_sign_54 rfl (lv_at hl 1 rfl) ?_
            refine va_get (D := D) (ci := 12) (v := .ref (a 1)) (C := RX12) (T := TX12) (N := 25) hx hb ht zinX12 hown hK hP 3 rfl rfl 1 (by decide) (ht _ zw_34) (fun _ h9 => h9) rfl dX12_sign_55 ?_
            refine lv_iconst (v := 0) hx hb dX12_sign_58 (by decide) ?_
            refine va_iald hx hb hK hP 0 0 rfl rfl (vp_in_iff.mpr (by decide)) dX12_sign_59 ?_
            refine W.eq (g2 := F0 m 60 ls (.int 0 :: .ref (a 0) :: [])) rfl ?_
            refine lv_iconst (v := 4) hx hb dX12_sign_60 (by decide) ?_
            refine lv_icmp_ge (tgt := 68) hx hb dX12_sign_61 (by decide) (fun c_8 => ?_) (fun c_8 => ?_)
            · skip
              exact absurd c_8 (by decide)
            · skip
              refine lv_iconst (v := 1) hx hb dX12_sign_64 (by decide) ?_
              refine lv_goto (tgt := 69) hx hb dX12_sign_65 (by decide) ?_
              refine lv_iconst (v := 2) hx hb dX12_sign_69 (by decide) ?_
              have hPc := hP.sub (ws' := [((a 0), .inr (12, zMo a (upd zI0 0 0)))]) [3] rfl
              have hDc := hD.sub (ws' := [((a 0), .inr (12, zMo a (upd zI0 0 0)))]) [3] (by decide) rfl
              have hKc := hK.sub (tys' := []) [] rfl
              have hFc := va_free (wc := [((a 0), .inr (12, zMo a (upd zI0 0 0)))]) hD hS hA [3] rfl
              refine va_calli (va_runV (As := [.int 1, .int 2]) (rest := []) ⟨hx, hb, hml, hown, ht⟩ (k_X12_no l _ D a (upd zI0 0 0) 1 2 (by decide)) (cwV 2 ht (zG_V zw_30 zw_31 zw_32 zw_2 zw_33) rfl rfl rfl (by decide +kernel) ⟨Nat.le_of_ble_eq_true rfl, Nat.le_of_ble_eq_true rfl⟩) (zM_V (va_recv hK hP (ci := 12) (q0 := 3) rfl rfl) hPc hKc hDc) rfl rfl hl.1 rfl (lv_room (Nat.le_of_ble_eq_true rfl)) dX12_sign_70 ⟨Nat.le_of_ble_eq_true rfl, Nat.le_of_ble_eq_true rfl⟩) hS (fun q _ h => hFc q h) hFc (fun r_9 u_9 t H1 locs ht0 hvm hw_9 hB hz1 hk1 hS => ?_)
              obtain ⟨rfl, rfl⟩ := hw_9.2 (by decide)
              obtain ⟨hP1, hK1, hD1⟩ := hB
              rw [ht0] at hP1
              have hK1 := va_K.moved hvm.symm hK1
              obtain ⟨hP, hD⟩ := va_join (wr := [((a 1), .inl (cI, 6792, .inl zI0)), ((a 2), .inl (cJ, 8, .inr (.inr (.inr (.inr fa))))), ((a 30), .inl (cI, 6792, .inl zI0))]) (w1 := [((a 0), .inr (12, zMo a (upd zI0 0 0)))]) hP hD [3] [0, 1, 2] rfl rfl (by decide) (by decide) hk1 hFc hP1 hD1
              generalize H1 = H at hP hS ⊢
              have hP : va_P D vwCl [((a 1), .inl (cI, 6792, .inl zI0)), ((a 2), .inl (cJ, 8, .inr (.inr (.inr (.inr fa))))), ((a 30), .inl (cI, 6792, .inl zI0)), ((a 0), .inr (12, zMo a (upd zI0 0 0)))] H := hP
              have hD : va_D A [((a 1), .inl (cI, 6792, .inl zI0)), ((a 2), .inl (cJ, 8, .inr (.inr (.inr (.inr fa))))), ((a 30), .inl (cI, 6792, .inl zI0)), ((a 0), .inr (12, zMo a (upd zI0 0 0)))] := hD
              refine lv_if_eq (tgt := 78) hx hb dX12_sign_73 (by decide) (fun c_10 => ?_) (fun c_10 => ?_)
              · skip
                refine lv_aload_n hx hb dX12_sign_78 rfl (lv_at hl 1 rfl) ?_
                have hPc := hP.sub (ws' := [((a 0), .inr (12, zMo a (upd zI0 0 0))), ((a 1), .inl (cI, 6792, .inl zI0)), ((a 2), .inl (cJ, 8, .inr (.inr (.inr (.inr fa))))), ((a 30), .inl (cI, 6792, .inl zI0))]) [3, 0, 1, 2] rfl
                have hDc := hD.sub (ws' := [((a 0), .inr (12, zMo a (upd zI0 0 0))), ((a 1), .inl (cI, 6792, .inl zI0)), ((a 2), .inl (cJ, 8, .inr (.inr (.inr (.inr fa))))), ((a 30), .inl (cI, 6792, .inl zI0))]) [3, 0, 1, 2] (by decide) rfl
                have hKc := hK.sub (tys' := [(cI, .int), (cJ, .array .int)]) [0, 1] rfl
                have hFc := va_free (wc := [((a 0), .inr (12, zMo a (upd zI0 0 0))), ((a 1), .inl (cI, 6792, .inl zI0)), ((a 2), .inl (cJ, 8, .inr (.inr (.inr (.inr fa))))), ((a 30), .inl (cI, 6792, .inl zI0))]) hD hS hA [3, 0, 1, 2] rfl
                refine va_callv (va_runV (As := []) (rest := []) ⟨hx, hb, hml, hown, ht⟩ (k_X12_keeps l _ D a (upd zI0 0 0) cI cJ zI0 zI0 fa rfl ha) (cwV 0 ht (zG_V zw_104 zw_105 zw_106 zw_2 zw_107) rfl rfl rfl (by decide +kernel) ⟨Nat.le_of_ble_eq_true rfl, Nat.le_of_ble_eq_true rfl⟩) (zM_V (va_recv hK hP (ci := 12) (q0 := 3) rfl rfl) hPc hKc hDc) rfl rfl hl.1 rfl (lv_room (Nat.le_of_ble_eq_true rfl)) dX12_sign_79 ⟨Nat.le_of_ble_eq_true rfl, Nat.le_of_ble_eq_true rfl⟩) hS (fun q _ h => hFc q h) hFc (fun u_11 t H1 locs ht0 hvm hw_11 hB hz1 hk1 hS => ?_)
                obtain rfl := hw_11
                obtain ⟨hP1, hK1, hD1⟩ := hB
                rw [ht0] at hP1
                have hK1 := va_K.moved hvm.symm hK1
                obtain ⟨hP, hD⟩ := va_join (wr := []) (w1 := [((a 0), .inr (12, zMo a (upd (upd zI0 0 0) 5 1))), ((a 1), .inl (cI, 6792, .inl zI0))]) hP hD [3, 0, 1, 2] [] rfl rfl (by decide) (by decide) hk1 hFc hP1 hD1
                generalize H1 = H at hP hS ⊢
                have hP : va_P D vwCl [((a 0), .inr (12, zMo a (upd (upd zI0 0 0) 5 1))), ((a 1), .inl (cI, 6792, .inl zI0))] H := hP
                have hD : va_D A [((a 0), .inr (12, zMo a (upd (upd zI0 0 0) 5 1))), ((a 1), .inl (cI, 6792, .inl zI0))] := hD
                refine lv_aload_n hx hb dX12_sign_82 rfl (lv_at hl 1 rfl) ?_
                refine va_get (D := D) (ci := 12) (v := .ref (a 1)) (C := RX12) (T := TX12) (N := 25) hx hb ht zinX12 hown hK hP 0 rfl rfl 1 (by decide) (ht _ zw_34) (fun _ h9 => h9) rfl dX12_sign_83 ?_
                refine lv_iconst (v := 1) hx hb dX12_sign_86 (by decide) ?_
                refine lv_iconst (v := 3) hx hb dX12_sign_87 (by decide) ?_
                refine lv_aload_n hx hb dX12_sign_88 rfl (lv_at hl 1 rfl) ?_
                refine va_get (D := D) (ci := 12) (v := .ref (a 1)) (C := RX12) (T := TX12) (N := 25) hx hb ht zinX12 hown hK hP 0 rfl rfl 1 (by decide) (ht _ zw_34) (fun _ h9 => h9) rfl dX12_sign_89 ?_
                refine lv_iconst (v := 0) hx hb dX12_sign_92 (by decide) ?_
                refine va_iald hx hb hK hP 1 0 rfl rfl (vp_in_iff.mpr (by decide)) dX12_sign_93 ?_
                refine W.eq (g2 := F0 m 94 ls (.int 0 :: .int 3 :: .int 1 :: .ref (a 1) :: [])) rfl ?_
                refine lv_imul hx hb dX12_sign_94 ?_
                refine lv_topi (fun x_13 e_13 => ?_)
                obtain rfl : x_13 = 0 := e_13.trans (by decide)
                refine lv_iadd hx hb dX12_sign_95 ?_
                refine lv_topi (fun x_14 e_14 => ?_)
                obtain rfl : x_14 = 1 := e_14.trans (by decide)
                refine lv_iload_n hx hb dX12_sign_96 rfl (lv_at hl 2 rfl) ?_
                refine va_iast hx hb hK hP hD hS 1 0 rfl rfl (vp_in_iff.mpr (by decide)) dX12_sign_97 (fun H locs hP hD hS => ?_)
                have hP : va_P D vwCl [((a 0), .inr (12, zMo a (upd (upd zI0 0 0) 5 1))), ((a 1), .inl (cI, 6792, .inl (upd zI0 1 p0)))] H := hP
                have hD : va_D A [((a 0), .inr (12, zMo a (upd (upd zI0 0 0) 5 1))), ((a 1), .inl (cI, 6792, .inl (upd zI0 1 p0)))] := hD
                refine lv_aload_n hx hb dX12_sign_98 rfl (lv_at hl 1 rfl) ?_
                refine va_get (D := D) (ci := 12) (v := .ref (a 1)) (C := RX12) (T := TX12) (N := 25) hx hb ht zinX12 hown hK hP 0 rfl rfl 1 (by decide) (ht _ zw_34) (fun _ h9 => h9) rfl dX12_sign_99 ?_
                refine lv_iconst (v := 1) hx hb dX12_sign_102 (by decide) ?_
                refine lv_iconst (v := 3) hx hb dX12_sign_103 (by decide) ?_
                refine lv_aload_n hx hb dX12_sign_104 rfl (lv_at hl 1 rfl) ?_
                refine va_get (D := D) (ci := 12) (v := .ref (a 1)) (C := RX12) (T := TX12) (N := 25) hx hb ht zinX12 hown hK hP 0 rfl rfl 1 (by decide) (ht _ zw_34) (fun _ h9 => h9) rfl dX12_sign_105 ?_
                refine lv_iconst (v := 0) hx hb dX12_sign_108 (by decide) ?_
                refine va_iald hx hb hK hP 1 0 rfl rfl (vp_in_iff.mpr (by decide)) dX12_sign_109 ?_
                refine W.eq (g2 := F0 m 110 ls (.int 0 :: .int 3 :: .int 1 :: .ref (a 1) :: [])) rfl ?_
                refine lv_imul hx hb dX12_sign_110 ?_
                refine lv_topi (fun x_16 e_16 => ?_)
                obtain rfl : x_16 = 0 := e_16.trans (by decide)
                refine lv_iadd hx hb dX12_sign_111 ?_
                refine lv_topi (fun x_17 e_17 => ?_)
                obtain rfl : x_17 = 1 := e_17.trans (by decide)
                refine lv_iconst (v := 1) hx hb dX12_sign_112 (by decide) ?_
                refine lv_iadd hx hb dX12_sign_113 ?_
                refine lv_topi (fun x_18 e_18 => ?_)
                obtain rfl : x_18 = 2 := e_18.trans (by decide)
                refine lv_iload_n hx hb dX12_sign_114 rfl (lv_at hl 3 rfl) ?_
                refine va_iast hx hb hK hP hD hS 1 0 rfl rfl (vp_in_iff.mpr (by decide)) dX12_sign_115 (fun H locs hP hD hS => ?_)
                have hP : va_P D vwCl [((a 0), .inr (12, zMo a (upd (upd zI0 0 0) 5 1))), ((a 1), .inl (cI, 6792, .inl (upd (upd zI0 1 p0) 2 p1)))] H := hP
                have hD : va_D A [((a 0), .inr (12, zMo a (upd (upd zI0 0 0) 5 1))), ((a 1), .inl (cI, 6792, .inl (upd (upd zI0 1 p0) 2 p1)))] := hD
                refine lv_aload_n hx hb dX12_sign_116 rfl (lv_at hl 1 rfl) ?_
                refine va_get (D := D) (ci := 12) (v := .ref (a 1)) (C := RX12) (T := TX12) (N := 25) hx hb ht zinX12 hown hK hP 0 rfl rfl 1 (by decide) (ht _ zw_34) (fun _ h9 => h9) rfl dX12_sign_117 ?_
                refine lv_iconst (v := 1) hx hb dX12_sign_120 (by decide) ?_
                refine lv_iconst (v := 3) hx hb dX12_sign_121 (by decide) ?_
                refine lv_aload_n hx hb dX12_sign_122 rfl (lv_at hl 1 rfl) ?_
                refine va_get (D := D) (ci := 12) (v := .ref (a 1)) (C := RX12) (T := TX12) (N := 25) hx hb ht zinX12 hown hK hP 0 rfl rfl 1 (by decide) (ht _ zw_34) (fun _ h9 => h9) rfl dX12_sign_123 ?_
                refine lv_iconst (v := 0) hx hb dX12_sign_126 (by decide) ?_
                refine va_iald hx hb hK hP 1 0 rfl rfl (vp_in_iff.mpr (by decide)) dX12_sign_127 ?_
                refine W.eq (g2 := F0 m 128 ls (.int 0 :: .int 3 :: .int 1 :: .ref (a 1) :: [])) rfl ?_
                refine lv_imul hx hb dX12_sign_128 ?_
                refine lv_topi (fun x_20 e_20 => ?_)
                obtain rfl : x_20 = 0 := e_20.trans (by decide)
                refine lv_iadd hx hb dX12_sign_129 ?_
                refine lv_topi (fun x_21 e_21 => ?_)
                obtain rfl : x_21 = 1 := e_21.trans (by decide)
                refine lv_iconst (v := 2) hx hb dX12_sign_130 (by decide) ?_
                refine lv_iadd hx hb dX12_sign_131 ?_
                refine lv_topi (fun x_22 e_22 => ?_)
                obtain rfl : x_22 = 3 := e_22.trans (by decide)
                refine lv_iload_n hx hb dX12_sign_132 rfl (lv_at hl 4 rfl) ?_
                refine va_iast hx hb hK hP hD hS 1 0 rfl rfl (vp_in_iff.mpr (by decide)) dX12_sign_133 (fun H locs hP hD hS => ?_)
                have hP : va_P D vwCl [((a 0), .inr (12, zMo a (upd (upd zI0 0 0) 5 1))), ((a 1), .inl (cI, 6792, .inl (upd (upd (upd zI0 1 p0) 2 p1) 3 p2)))] H := hP
                have hD : va_D A [((a 0), .inr (12, zMo a (upd (upd zI0 0 0) 5 1))), ((a 1), .inl (cI, 6792, .inl (upd (upd (upd zI0 1 p0) 2 p1) 3 p2)))] := hD
                refine lv_aload_n hx hb dX12_sign_134 rfl (lv_at hl 1 rfl) ?_
                refine va_get (D := D) (ci := 12) (v := .ref (a 1)) (C := RX12) (T := TX12) (N := 25) hx hb ht zinX12 hown hK hP 0 rfl rfl 1 (by decide) (ht _ zw_34) (fun _ h9 => h9) rfl dX12_sign_135 ?_
                refine lv_iconst (v := 0) hx hb dX12_sign_138 (by decide) ?_
                refine lv_dup2_11 hx hb dX12_sign_139 rfl rfl ?_
                refine va_iald hx hb hK hP 1 0 rfl rfl (vp_in_iff.mpr (by decide)) dX12_sign_140 ?_
                refine W.eq (g2 := F0 m 141 ls (.int 0 :: .int 0 :: .ref (a 1) :: [])) rfl ?_
                refine lv_iconst (v := 1) hx hb dX12_sign_141 (by decide) ?_
                refine lv_iadd hx hb dX12_sign_142 ?_
                refine lv_topi (fun x_24 e_24 => ?_)
                obtain rfl : x_24 = 1 := e_24.trans (by decide)
                refine va_iast hx hb hK hP hD hS 1 0 rfl rfl (vp_in_iff.mpr (by decide)) dX12_sign_143 (fun H locs hP hD hS => ?_)
                have hP : va_P D vwCl [((a 0), .inr (12, zMo a (upd (upd zI0 0 0) 5 1))), ((a 1), .inl (cI, 6792, .inl (upd (upd (upd (upd zI0 1 p0) 2 p1) 3 p2) 0 1)))] H := hP
                have hD : va_D A [((a 0), .inr (12, zMo a (upd (upd zI0 0 0) 5 1))), ((a 1), .inl (cI, 6792, .inl (upd (upd (upd (upd zI0 1 p0) 2 p1) 3 p2) 0 1)))] := hD
                refine lv_aload_n hx hb dX12_sign_144 rfl (lv_at hl 1 rfl) ?_
                refine va_get (D := D) (ci := 12) (v := .ref (a 1)) (C := RX12) (T := TX12) (N := 25) hx hb ht zinX12 hown hK hP 0 rfl rfl 1 (by decide) (ht _ zw_34) (fun _ h9 => h9) rfl dX12_sign_145 ?_
                refine lv_iconst (v := 0) hx hb dX12_sign_148 (by decide) ?_
                refine va_iald hx hb hK hP 1 0 rfl rfl (vp_in_iff.mpr (by decide)) dX12_sign_149 ?_
                refine W.eq (g2 := F0 m 150 ls (.int 1 :: [])) rfl ?_
                refine lv_iconst (v := 1) hx hb dX12_sign_150 (by decide) ?_
                refine lv_isub hx hb dX12_sign_151 ?_
                refine lv_topi (fun x_26 e_26 => ?_)
                obtain rfl : x_26 = 0 := e_26.trans (by decide)
                have hP9 := hP.sub (ws' := [((a 0), .inr (12, zMo a (upd (upd zI0 0 0) 5 1)))]) [0] rfl
                have hD9 := hD.sub (ws' := [((a 0), .inr (12, zMo a (upd (upd zI0 0 0) 5 1)))]) [0] (by decide) rfl
                have hK9 := hK.sub (tys' := []) [] rfl
                refine W.widen (k := 0) (n := 0) (Nat.le_of_ble_eq_true rfl) (Nat.le_of_ble_eq_true rfl) ?_
                exact W.iret (v := 0) hx hb hr (fun t ht0 hW => ⟨⟨0, upd (upd zI0 0 0) 5 1, rfl, (show zS_sign p0 p1 p2 0 0 from (.inr ⟨rfl, by omega, rfl⟩)), (zE_of hP9 hK9 hD9 ht0 hW)⟩, hS.F ht0⟩) hS.2.2 dX12_sign_152
              · skip
                exact absurd c_10 (by decide)
        · skip
          simp only [fa_lt, fa_le, fa_eq, Int32.reduceToInt] at c_4
          refine lv_iload_n hx hb dX12_sign_28 rfl (lv_at hl 3 rfl) ?_
          refine lv_iconst (v := 0) hx hb dX12_sign_29 (by decide) ?_
          refine lv_iconst (v := 2) hx hb dX12_sign_30 (by decide) ?_
          refine vp_callSi (va_runS (As := [.int p2, .int 0, .int 2]) (rest := []) ⟨hx, hb, hml, hown, ht⟩ (k_X12_in l p2 0 2) (va_cwS 3 ht (zG_S zw_0 zw_1 zw_2 zw_3) rfl rfl rfl (by decide +kernel) ⟨Nat.le_of_ble_eq_true rfl, Nat.le_of_ble_eq_true rfl⟩) zN_S rfl rfl hl.1 rfl (lv_room (Nat.le_of_ble_eq_true rfl)) dX12_sign_31 ⟨Nat.le_of_ble_eq_true rfl, Nat.le_of_ble_eq_true rfl⟩).run (fun r_27 hw_27 => ?_)
          rcases hw_27 with ⟨rfl, h_27⟩ | ⟨rfl, h_27⟩
          · skip
            simp only [Int32.reduceToInt] at h_27
            refine lv_if_eq (tgt := 41) hx hb dX12_sign_34 (by decide) (fun c_28 => ?_) (fun c_28 => ?_)
            · skip
              exact absurd c_28 (by decide)
            · skip
              refine lv_iconst (v := 1) hx hb dX12_sign_37 (by decide) ?_
              refine lv_goto (tgt := 42) hx hb dX12_sign_38 (by decide) ?_
              refine lv_istore (lv' := [(4, .int 1), (0, .ref (a 0)), (1, .int p0), (2, .int p1), (3, .int p2)]) hx hb dX12_sign_42 hl (by decide) rfl (fun ls hl => ?_)
              refine lv_aload_n hx hb dX12_sign_44 rfl (lv_at hl 1 rfl) ?_
              refine lv_iload hx hb dX12_sign_45 (lv_at hl 0 rfl) ?_
              have hPc := hP.sub (ws' := [((a 0), .inr (12, zMo a zI0))]) [0] rfl
              have hDc := hD.sub (ws' := [((a 0), .inr (12, zMo a zI0))]) [0] (by decide) rfl
              have hKc := hK.sub (tys' := []) [] rfl
              have hFc := va_free (wc := [((a 0), .inr (12, zMo a zI0))]) hD hS hA [0] rfl
              refine va_calli (va_runV (As := [.int 1]) (rest := []) ⟨hx, hb, hml, hown, ht⟩ (k_X12_lacks l _ D a zI0 1 (by decide)) (cwV 1 ht (zG_V zw_62 zw_63 zw_64 zw_2 zw_65) rfl rfl rfl (by decide +kernel) ⟨Nat.le_of_ble_eq_true rfl, Nat.le_of_ble_eq_true rfl⟩) (zM_V (va_recv hK hP (ci := 12) (q0 := 0) rfl rfl) hPc hKc hDc) rfl rfl hl.1 rfl (lv_room (Nat.le_of_ble_eq_true rfl)) dX12_sign_47 ⟨Nat.le_of_ble_eq_true rfl, Nat.le_of_ble_eq_true rfl⟩) hS (fun q _ h => hFc q h) hFc (fun r_29 u_29 t H1 locs ht0 hvm hw_29 hB hz1 hk1 hS => ?_)
              obtain ⟨rfl, rfl⟩ := hw_29.2 (by decide)
              obtain ⟨hP1, hK1, hD1⟩ := hB
              rw [ht0] at hP1
              have hK1 := va_K.moved hvm.symm hK1
              obtain ⟨hP, hD⟩ := va_join (wr := [((a 1), .inl (cI, 6792, .inl zI0)), ((a 2), .inl (cJ, 8, .inr (.inr (.inr (.inr fa))))), ((a 30), .inl (cI, 6792, .inl zI0))]) (w1 := [((a 0), .inr (12, zMo a (upd zI0 0 0)))]) hP hD [0] [1, 2, 3] rfl rfl (by decide) (by decide) hk1 hFc hP1 hD1
              generalize H1 = H at hP hS ⊢
              have hP : va_P D vwCl [((a 1), .inl (cI, 6792, .inl zI0)), ((a 2), .inl (cJ, 8, .inr (.inr (.inr (.inr fa))))), ((a 30), .inl (cI, 6792, .inl zI0)), ((a 0), .inr (12, zMo a (upd zI0 0 0)))] H := hP
              have hD : va_D A [((a 1), .inl (cI, 6792, .inl zI0)), ((a 2), .inl (cJ, 8, .inr (.inr (.inr (.inr fa))))), ((a 30), .inl (cI, 6792, .inl zI0)), ((a 0), .inr (12, zMo a (upd zI0 0 0)))] := hD
              refine lv_if_ne (tgt := 76) hx hb dX12_sign_50 (by decide) (fun c_30 => ?_) (fun c_30 => ?_)
              · skip
                exact absurd c_30 (by decide)
              · skip
                refine lv_aload_n hx hb dX12_sign_53 rfl (lv_at hl 1 rfl) ?_
                refine lv_aload_n hx hb dX12_sign_54 rfl (lv_at hl 1 rfl) ?_
                refine va_get (D := D) (ci := 12) (v := .ref (a 1)) (C := RX12) (T := TX12) (N := 25) hx hb ht zinX12 hown hK hP 3 rfl rfl 1 (by decide) (ht _ zw_34) (fun _ h9 => h9) rfl dX12_sign_55 ?_
                refine lv_iconst (v := 0) hx hb dX12_sign_58 (by decide) ?_
                refine va_iald hx hb hK hP 0 0 rfl rfl (vp_in_iff.mpr (by decide)) dX12_sign_59 ?_
                refine W.eq (g2 := F0 m 60 ls (.int 0 :: .ref (a 0) :: [])) rfl ?_
                refine lv_iconst (v := 4) hx hb dX12_sign_60 (by decide) ?_
                refine lv_icmp_ge (tgt := 68) hx hb dX12_sign_61 (by decide) (fun c_32 => ?_) (fun c_32 => ?_)
                · skip
                  exact absurd c_32 (by decide)
                · skip
                  refine lv_iconst (v := 1) hx hb dX12_sign_64 (by decide) ?_
                  refine lv_goto (tgt := 69) hx hb dX12_sign_65 (by decide) ?_
                  refine lv_iconst (v := 2) hx hb dX12_sign_69 (by decide) ?_
                  have hPc := hP.sub (ws' := [((a 0), .inr (12, zMo a (upd zI0 0 0)))]) [3] rfl
                  have hDc := hD.sub (ws' := [((a 0), .inr (12, zMo a (upd zI0 0 0)))]) [3] (by decide) rfl
                  have hKc := hK.sub (tys' := []) [] rfl
                  have hFc := va_free (wc := [((a 0), .inr (12, zMo a (upd zI0 0 0)))]) hD hS hA [3] rfl
                  refine va_calli (va_runV (As := [.int 1, .int 2]) (rest := []) ⟨hx, hb, hml, hown, ht⟩ (k_X12_no l _ D a (upd zI0 0 0) 1 2 (by decide)) (cwV 2 ht (zG_V zw_30 zw_31 zw_32 zw_2 zw_33) rfl rfl rfl (by decide +kernel) ⟨Nat.le_of_ble_eq_true rfl, Nat.le_of_ble_eq_true rfl⟩) (zM_V (va_recv hK hP (ci := 12) (q0 := 3) rfl rfl) hPc hKc hDc) rfl rfl hl.1 rfl (lv_room (Nat.le_of_ble_eq_true rfl)) dX12_sign_70 ⟨Nat.le_of_ble_eq_true rfl, Nat.le_of_ble_eq_true rfl⟩) hS (fun q _ h => hFc q h) hFc (fun r_33 u_33 t H1 locs ht0 hvm hw_33 hB hz1 hk1 hS => ?_)
                  obtain ⟨rfl, rfl⟩ := hw_33.2 (by decide)
                  obtain ⟨hP1, hK1, hD1⟩ := hB
                  rw [ht0] at hP1
                  have hK1 := va_K.moved hvm.symm hK1
                  obtain ⟨hP, hD⟩ := va_join (wr := [((a 1), .inl (cI, 6792, .inl zI0)), ((a 2), .inl (cJ, 8, .inr (.inr (.inr (.inr fa))))), ((a 30), .inl (cI, 6792, .inl zI0))]) (w1 := [((a 0), .inr (12, zMo a (upd zI0 0 0)))]) hP hD [3] [0, 1, 2] rfl rfl (by decide) (by decide) hk1 hFc hP1 hD1
                  generalize H1 = H at hP hS ⊢
                  have hP : va_P D vwCl [((a 1), .inl (cI, 6792, .inl zI0)), ((a 2), .inl (cJ, 8, .inr (.inr (.inr (.inr fa))))), ((a 30), .inl (cI, 6792, .inl zI0)), ((a 0), .inr (12, zMo a (upd zI0 0 0)))] H := hP
                  have hD : va_D A [((a 1), .inl (cI, 6792, .inl zI0)), ((a 2), .inl (cJ, 8, .inr (.inr (.inr (.inr fa))))), ((a 30), .inl (cI, 6792, .inl zI0)), ((a 0), .inr (12, zMo a (upd zI0 0 0)))] := hD
                  refine lv_if_eq (tgt := 78) hx hb dX12_sign_73 (by decide) (fun c_34 => ?_) (fun c_34 => ?_)
                  · skip
                    refine lv_aload_n hx hb dX12_sign_78 rfl (lv_at hl 1 rfl) ?_
                    have hPc := hP.sub (ws' := [((a 0), .inr (12, zMo a (upd zI0 0 0))), ((a 1), .inl (cI, 6792, .inl zI0)), ((a 2), .inl (cJ, 8, .inr (.inr (.inr (.inr fa))))), ((a 30), .inl (cI, 6792, .inl zI0))]) [3, 0, 1, 2] rfl
                    have hDc := hD.sub (ws' := [((a 0), .inr (12, zMo a (upd zI0 0 0))), ((a 1), .inl (cI, 6792, .inl zI0)), ((a 2), .inl (cJ, 8, .inr (.inr (.inr (.inr fa))))), ((a 30), .inl (cI, 6792, .inl zI0))]) [3, 0, 1, 2] (by decide) rfl
                    have hKc := hK.sub (tys' := [(cI, .int), (cJ, .array .int)]) [0, 1] rfl
                    have hFc := va_free (wc := [((a 0), .inr (12, zMo a (upd zI0 0 0))), ((a 1), .inl (cI, 6792, .inl zI0)), ((a 2), .inl (cJ, 8, .inr (.inr (.inr (.inr fa))))), ((a 30), .inl (cI, 6792, .inl zI0))]) hD hS hA [3, 0, 1, 2] rfl
                    refine va_callv (va_runV (As := []) (rest := []) ⟨hx, hb, hml, hown, ht⟩ (k_X12_keeps l _ D a (upd zI0 0 0) cI cJ zI0 zI0 fa rfl ha) (cwV 0 ht (zG_V zw_104 zw_105 zw_106 zw_2 zw_107) rfl rfl rfl (by decide +kernel) ⟨Nat.le_of_ble_eq_true rfl, Nat.le_of_ble_eq_true rfl⟩) (zM_V (va_recv hK hP (ci := 12) (q0 := 3) rfl rfl) hPc hKc hDc) rfl rfl hl.1 rfl (lv_room (Nat.le_of_ble_eq_true rfl)) dX12_sign_79 ⟨Nat.le_of_ble_eq_true rfl, Nat.le_of_ble_eq_true rfl⟩) hS (fun q _ h => hFc q h) hFc (fun u_35 t H1 locs ht0 hvm hw_35 hB hz1 hk1 hS => ?_)
                    obtain rfl := hw_35
                    obtain ⟨hP1, hK1, hD1⟩ := hB
                    rw [ht0] at hP1
                    have hK1 := va_K.moved hvm.symm hK1
                    obtain ⟨hP, hD⟩ := va_join (wr := []) (w1 := [((a 0), .inr (12, zMo a (upd (upd zI0 0 0) 5 1))), ((a 1), .inl (cI, 6792, .inl zI0))]) hP hD [3, 0, 1, 2] [] rfl rfl (by decide) (by decide) hk1 hFc hP1 hD1
                    generalize H1 = H at hP hS ⊢
                    have hP : va_P D vwCl [((a 0), .inr (12, zMo a (upd (upd zI0 0 0) 5 1))), ((a 1), .inl (cI, 6792, .inl zI0))] H := hP
                    have hD : va_D A [((a 0), .inr (12, zMo a (upd (upd zI0 0 0) 5 1))), ((a 1), .inl (cI, 6792, .inl zI0))] := hD
                    refine lv_aload_n hx hb dX12_sign_82 rfl (lv_at hl 1 rfl) ?_
                    refine va_get (D := D) (ci := 12) (v := .ref (a 1)) (C := RX12) (T := TX12) (N := 25) hx hb ht zinX12 hown hK hP 0 rfl rfl 1 (by decide) (ht _ zw_34) (fun _ h9 => h9) rfl dX12_sign_83 ?_
                    refine lv_iconst (v := 1) hx hb dX12_sign_86 (by decide) ?_
                    refine lv_iconst (v := 3) hx hb dX12_sign_87 (by decide) ?_
                    refine lv_aload_n hx hb dX12_sign_88 rfl (lv_at hl 1 rfl) ?_
                    refine va_get (D := D) (ci := 12) (v := .ref (a 1)) (C := RX12) (T := TX12) (N := 25) hx hb ht zinX12 hown hK hP 0 rfl rfl 1 (by decide) (ht _ zw_34) (fun _ h9 => h9) rfl dX12_sign_89 ?_
                    refine lv_iconst (v := 0) hx hb dX12_sign_92 (by decide) ?_
                    refine va_iald hx hb hK hP 1 0 rfl rfl (vp_in_iff.mpr (by decide)) dX12_sign_93 ?_
                    refine W.eq (g2 := F0 m 94 ls (.int 0 :: .int 3 :: .int 1 :: .ref (a 1) :: [])) rfl ?_
                    refine lv_imul hx hb dX12_sign_94 ?_
                    refine lv_topi (fun x_37 e_37 => ?_)
                    obtain rfl : x_37 = 0 := e_37.trans (by decide)
                    refine lv_iadd hx hb dX12_sign_95 ?_
                    refine lv_topi (fun x_38 e_38 => ?_)
                    obtain rfl : x_38 = 1 := e_38.trans (by decide)
                    refine lv_iload_n hx hb dX12_sign_96 rfl (lv_at hl 2 rfl) ?_
                    refine va_iast hx hb hK hP hD hS 1 0 rfl rfl (vp_in_iff.mpr (by decide)) dX12_sign_97 (fun H locs hP hD hS => ?_)
                    have hP : va_P D vwCl [((a 0), .inr (12, zMo a (upd (upd zI0 0 0) 5 1))), ((a 1), .inl (cI, 6792, .inl (upd zI0 1 p0)))] H := hP
                    have hD : va_D A [((a 0), .inr (12, zMo a (upd (upd zI0 0 0) 5 1))), ((a 1), .inl (cI, 6792, .inl (upd zI0 1 p0)))] := hD
                    refine lv_aload_n hx hb dX12_sign_98 rfl (lv_at hl 1 rfl) ?_
                    refine va_get (D := D) (ci := 12) (v := .ref (a 1)) (C := RX12) (T := TX12) (N := 25) hx hb ht zinX12 hown hK hP 0 rfl rfl 1 (by decide) (ht _ zw_34) (fun _ h9 => h9) rfl dX12_sign_99 ?_
                    refine lv_iconst (v := 1) hx hb dX12_sign_102 (by decide) ?_
                    refine lv_iconst (v := 3) hx hb dX12_sign_103 (by decide) ?_
                    refine lv_aload_n hx hb dX12_sign_104 rfl (lv_at hl 1 rfl) ?_
                    refine va_get (D := D) (ci := 12) (v := .ref (a 1)) (C := RX12) (T := TX12) (N := 25) hx hb ht zinX12 hown hK hP 0 rfl rfl 1 (by decide) (ht _ zw_34) (fun _ h9 => h9) rfl dX12_sign_105 ?_
                    refine lv_iconst (v := 0) hx hb dX12_sign_108 (by decide) ?_
                    refine va_iald hx hb hK hP 1 0 rfl rfl (vp_in_iff.mpr (by decide)) dX12_sign_109 ?_
                    refine W.eq (g2 := F0 m 110 ls (.int 0 :: .int 3 :: .int 1 :: .ref (a 1) :: [])) rfl ?_
                    refine lv_imul hx hb dX12_sign_110 ?_
                    refine lv_topi (fun x_40 e_40 => ?_)
                    obtain rfl : x_40 = 0 := e_40.trans (by decide)
                    refine lv_iadd hx hb dX12_sign_111 ?_
                    refine lv_topi (fun x_41 e_41 => ?_)
                    obtain rfl : x_41 = 1 := e_41.trans (by decide)
                    refine lv_iconst (v := 1) hx hb dX12_sign_112 (by decide) ?_
                    refine lv_iadd hx hb dX12_sign_113 ?_
                    refine lv_topi (fun x_42 e_42 => ?_)
                    obtain rfl : x_42 = 2 := e_42.trans (by decide)
                    refine lv_iload_n hx hb dX12_sign_114 rfl (lv_at hl 3 rfl) ?_
                    refine va_iast hx hb hK hP hD hS 1 0 rfl rfl (vp_in_iff.mpr (by decide)) dX12_sign_115 (fun H locs hP hD hS => ?_)
                    have hP : va_P D vwCl [((a 0), .inr (12, zMo a (upd (upd zI0 0 0) 5 1))), ((a 1), .inl (cI, 6792, .inl (upd (upd zI0 1 p0) 2 p1)))] H := hP
                    have hD : va_D A [((a 0), .inr (12, zMo a (upd (upd zI0 0 0) 5 1))), ((a 1), .inl (cI, 6792, .inl (upd (upd zI0 1 p0) 2 p1)))] := hD
                    refine lv_aload_n hx hb dX12_sign_116 rfl (lv_at hl 1 rfl) ?_
                    refine va_get (D := D) (ci := 12) (v := .ref (a 1)) (C := RX12) (T := TX12) (N := 25) hx hb ht zinX12 hown hK hP 0 rfl rfl 1 (by decide) (ht _ zw_34) (fun _ h9 => h9) rfl dX12_sign_117 ?_
                    refine lv_iconst (v := 1) hx hb dX12_sign_120 (by decide) ?_
                    refine lv_iconst (v := 3) hx hb dX12_sign_121 (by decide) ?_
                    refine lv_aload_n hx hb dX12_sign_122 rfl (lv_at hl 1 rfl) ?_
                    refine va_get (D := D) (ci := 12) (v := .ref (a 1)) (C := RX12) (T := TX12) (N := 25) hx hb ht zinX12 hown hK hP 0 rfl rfl 1 (by decide) (ht _ zw_34) (fun _ h9 => h9) rfl dX12_sign_123 ?_
                    refine lv_iconst (v := 0) hx hb dX12_sign_126 (by decide) ?_
                    refine va_iald hx hb hK hP 1 0 rfl rfl (vp_in_iff.mpr (by decide)) dX12_sign_127 ?_
                    refine W.eq (g2 := F0 m 128 ls (.int 0 :: .int 3 :: .int 1 :: .ref (a 1) :: [])) rfl ?_
                    refine lv_imul hx hb dX12_sign_128 ?_
                    refine lv_topi (fun x_44 e_44 => ?_)
                    obtain rfl : x_44 = 0 := e_44.trans (by decide)
                    refine lv_iadd hx hb dX12_sign_129 ?_
                    refine lv_topi (fun x_45 e_45 => ?_)
                    obtain rfl : x_45 = 1 := e_45.trans (by decide)
                    refine lv_iconst (v := 2) hx hb dX12_sign_130 (by decide) ?_
                    refine lv_iadd hx hb dX12_sign_131 ?_
                    refine lv_topi (fun x_46 e_46 => ?_)
                    obtain rfl : x_46 = 3 := e_46.trans (by decide)
                    refine lv_iload_n hx hb dX12_sign_132 rfl (lv_at hl 4 rfl) ?_
                    refine va_iast hx hb hK hP hD hS 1 0 rfl rfl (vp_in_iff.mpr (by decide)) dX12_sign_133 (fun H locs hP hD hS => ?_)
                    have hP : va_P D vwCl [((a 0), .inr (12, zMo a (upd (upd zI0 0 0) 5 1))), ((a 1), .inl (cI, 6792, .inl (upd (upd (upd zI0 1 p0) 2 p1) 3 p2)))] H := hP
                    have hD : va_D A [((a 0), .inr (12, zMo a (upd (upd zI0 0 0) 5 1))), ((a 1), .inl (cI, 6792, .inl (upd (upd (upd zI0 1 p0) 2 p1) 3 p2)))] := hD
                    refine lv_aload_n hx hb dX12_sign_134 rfl (lv_at hl 1 rfl) ?_
                    refine va_get (D := D) (ci := 12) (v := .ref (a 1)) (C := RX12) (T := TX12) (N := 25) hx hb ht zinX12 hown hK hP 0 rfl rfl 1 (by decide) (ht _ zw_34) (fun _ h9 => h9) rfl dX12_sign_135 ?_
                    refine lv_iconst (v := 0) hx hb dX12_sign_138 (by decide) ?_
                    refine lv_dup2_11 hx hb dX12_sign_139 rfl rfl ?_
                    refine va_iald hx hb hK hP 1 0 rfl rfl (vp_in_iff.mpr (by decide)) dX12_sign_140 ?_
                    refine W.eq (g2 := F0 m 141 ls (.int 0 :: .int 0 :: .ref (a 1) :: [])) rfl ?_
                    refine lv_iconst (v := 1) hx hb dX12_sign_141 (by decide) ?_
                    refine lv_iadd hx hb dX12_sign_142 ?_
                    refine lv_topi (fun x_48 e_48 => ?_)
                    obtain rfl : x_48 = 1 := e_48.trans (by decide)
                    refine va_iast hx hb hK hP hD hS 1 0 rfl rfl (vp_in_iff.mpr (by decide)) dX12_sign_143 (fun H locs hP hD hS => ?_)
                    have hP : va_P D vwCl [((a 0), .inr (12, zMo a (upd (upd zI0 0 0) 5 1))), ((a 1), .inl (cI, 6792, .inl (upd (upd (upd (upd zI0 1 p0) 2 p1) 3 p2) 0 1)))] H := hP
                    have hD : va_D A [((a 0), .inr (12, zMo a (upd (upd zI0 0 0) 5 1))), ((a 1), .inl (cI, 6792, .inl (upd (upd (upd (upd zI0 1 p0) 2 p1) 3 p2) 0 1)))] := hD
                    refine lv_aload_n hx hb dX12_sign_144 rfl (lv_at hl 1 rfl) ?_
                    refine va_get (D := D) (ci := 12) (v := .ref (a 1)) (C := RX12) (T := TX12) (N := 25) hx hb ht zinX12 hown hK hP 0 rfl rfl 1 (by decide) (ht _ zw_34) (fun _ h9 => h9) rfl dX12_sign_145 ?_
                    refine lv_iconst (v := 0) hx hb dX12_sign_148 (by decide) ?_
                    refine va_iald hx hb hK hP 1 0 rfl rfl (vp_in_iff.mpr (by decide)) dX12_sign_149 ?_
                    refine W.eq (g2 := F0 m 150 ls (.int 1 :: [])) rfl ?_
                    refine lv_iconst (v := 1) hx hb dX12_sign_150 (by decide) ?_
                    refine lv_isub hx hb dX12_sign_151 ?_
                    refine lv_topi (fun x_50 e_50 => ?_)
                    obtain rfl : x_50 = 0 := e_50.trans (by decide)
                    have hP9 := hP.sub (ws' := [((a 0), .inr (12, zMo a (upd (upd zI0 0 0) 5 1)))]) [0] rfl
                    have hD9 := hD.sub (ws' := [((a 0), .inr (12, zMo a (upd (upd zI0 0 0) 5 1)))]) [0] (by decide) rfl
                    have hK9 := hK.sub (tys' := []) [] rfl
                    refine W.widen (k := 0) (n := 0) (Nat.le_of_ble_eq_true rfl) (Nat.le_of_ble_eq_true rfl) ?_
                    exact W.iret (v := 0) hx hb hr (fun t ht0 hW => ⟨⟨0, upd (upd zI0 0 0) 5 1, rfl, (show zS_sign p0 p1 p2 0 0 from (.inr ⟨rfl, by omega, rfl⟩)), (zE_of hP9 hK9 hD9 ht0 hW)⟩, hS.F ht0⟩) hS.2.2 dX12_sign_152
                  · skip
                    exact absurd c_34 (by decide)
          · skip
            simp only [Int32.reduceToInt] at h_27
            refine lv_if_eq (tgt := 41) hx hb dX12_sign_34 (by decide) (fun c_51 => ?_) (fun c_51 => ?_)
            · skip
              refine lv_iconst (v := 0) hx hb dX12_sign_41 (by decide) ?_
              refine lv_istore (lv' := [(4, .int 0), (0, .ref (a 0)), (1, .int p0), (2, .int p1), (3, .int p2)]) hx hb dX12_sign_42 hl (by decide) rfl (fun ls hl => ?_)
              refine lv_aload_n hx hb dX12_sign_44 rfl (lv_at hl 1 rfl) ?_
              refine lv_iload hx hb dX12_sign_45 (lv_at hl 0 rfl) ?_
              have hPc := hP.sub (ws' := [((a 0), .inr (12, zMo a zI0))]) [0] rfl
              have hDc := hD.sub (ws' := [((a 0), .inr (12, zMo a zI0))]) [0] (by decide) rfl
              have hKc := hK.sub (tys' := []) [] rfl
              have hFc := va_free (wc := [((a 0), .inr (12, zMo a zI0))]) hD hS hA [0] rfl
              refine va_calli (va_runV (As := [.int 0]) (rest := []) ⟨hx, hb, hml, hown, ht⟩ (k_X12_lacks l _ D a zI0 0 (by decide)) (cwV 1 ht (zG_V zw_62 zw_63 zw_64 zw_2 zw_65) rfl rfl rfl (by decide +kernel) ⟨Nat.le_of_ble_eq_true rfl, Nat.le_of_ble_eq_true rfl⟩) (zM_V (va_recv hK hP (ci := 12) (q0 := 0) rfl rfl) hPc hKc hDc) rfl rfl hl.1 rfl (lv_room (Nat.le_of_ble_eq_true rfl)) dX12_sign_47 ⟨Nat.le_of_ble_eq_true rfl, Nat.le_of_ble_eq_true rfl⟩) hS (fun q _ h => hFc q h) hFc (fun r_52 u_52 t H1 locs ht0 hvm hw_52 hB hz1 hk1 hS => ?_)
              obtain ⟨rfl, rfl⟩ := hw_52.1 rfl
              obtain ⟨hP1, hK1, hD1⟩ := hB
              rw [ht0] at hP1
              have hK1 := va_K.moved hvm.symm hK1
              obtain ⟨hP, hD⟩ := va_join (wr := [((a 1), .inl (cI, 6792, .inl zI0)), ((a 2), .inl (cJ, 8, .inr (.inr (.inr (.inr fa))))), ((a 30), .inl (cI, 6792, .inl zI0))]) (w1 := [((a 0), .inr (12, zMo a (upd zI0 0 1)))]) hP hD [0] [1, 2, 3] rfl rfl (by decide) (by decide) hk1 hFc hP1 hD1
              generalize H1 = H at hP hS ⊢
              have hP : va_P D vwCl [((a 1), .inl (cI, 6792, .inl zI0)), ((a 2), .inl (cJ, 8, .inr (.inr (.inr (.inr fa))))), ((a 30), .inl (cI, 6792, .inl zI0)), ((a 0), .inr (12, zMo a (upd zI0 0 1)))] H := hP
              have hD : va_D A [((a 1), .inl (cI, 6792, .inl zI0)), ((a 2), .inl (cJ, 8, .inr (.inr (.inr (.inr fa))))), ((a 30), .inl (cI, 6792, .inl zI0)), ((a 0), .inr (12, zMo a (upd zI0 0 1)))] := hD
              refine lv_if_ne (tgt := 76) hx hb dX12_sign_50 (by decide) (fun c_53 => ?_) (fun c_53 => ?_)
              · skip
                refine lv_iconst (v := 0) hx hb dX12_sign_76 (by decide) ?_
                have hP9 := hP.sub (ws' := [((a 0), .inr (12, zMo a (upd zI0 0 1)))]) [3] rfl
                have hD9 := hD.sub (ws' := [((a 0), .inr (12, zMo a (upd zI0 0 1)))]) [3] (by decide) rfl
                have hK9 := hK.sub (tys' := []) [] rfl
                refine W.widen (k := 0) (n := 0) (Nat.le_of_ble_eq_true rfl) (Nat.le_of_ble_eq_true rfl) ?_
                exact W.iret (v := 0) hx hb hr (fun t ht0 hW => ⟨⟨0, upd zI0 0 1, rfl, (show zS_sign p0 p1 p2 1 0 from (.inl ⟨rfl, by omega⟩)), (zE_of hP9 hK9 hD9 ht0 hW)⟩, hS.F ht0⟩) hS.2.2 dX12_sign_77
              · skip
                exact absurd c_53 (by decide)
            · skip
              exact absurd c_51 (by decide)
      · skip
        simp only [fa_lt, fa_le, fa_eq, Int32.reduceToInt] at c_3
        refine lv_iload_n hx hb dX12_sign_14 rfl (lv_at hl 2 rfl) ?_
        refine lv_iconst (v := 0) hx hb dX12_sign_15 (by decide) ?_
        refine lv_iconst (v := 2) hx hb dX12_sign_16 (by decide) ?_
        refine vp_callSi (va_runS (As := [.int p1, .int 0, .int 2]) (rest := []) ⟨hx, hb, hml, hown, ht⟩ (k_X12_in l p1 0 2) (va_cwS 3 ht (zG_S zw_0 zw_1 zw_2 zw_3) rfl rfl rfl (by decide +kernel) ⟨Nat.le_of_ble_eq_true rfl, Nat.le_of_ble_eq_true rfl⟩) zN_S rfl rfl hl.1 rfl (lv_room (Nat.le_of_ble_eq_true rfl)) dX12_sign_17 ⟨Nat.le_of_ble_eq_true rfl, Nat.le_of_ble_eq_true rfl⟩).run (fun r_54 hw_54 => ?_)
        rcases hw_54 with ⟨rfl, h_54⟩ | ⟨rfl, h_54⟩
        · skip
          simp only [Int32.reduceToInt] at h_54
          refine lv_if_eq (tgt := 41) hx hb dX12_sign_20 (by decide) (fun c_55 => ?_) (fun c_55 => ?_)
          · skip
            exact absurd c_55 (by decide)
          · skip
            refine lv_iload_n hx hb dX12_sign_23 rfl (lv_at hl 1 rfl) ?_
            refine lv_iconst (v := 2) hx hb dX12_sign_24 (by decide) ?_
            refine lv_icmp_lt (tgt := 37) hx hb dX12_sign_25 (by decide) (fun c_56 => ?_) (fun c_56 => ?_)
            · skip
              simp only [fa_lt, fa_le, fa_eq, Int32.reduceToInt] at c_56
              refine lv_iconst (v := 1) hx hb dX12_sign_37 (by decide) ?_
              refine lv_goto (tgt := 42) hx hb dX12_sign_38 (by decide) ?_
              refine lv_istore (lv' := [(4, .int 1), (0, .ref (a 0)), (1, .int p0), (2, .int p1), (3, .int p2)]) hx hb dX12_sign_42 hl (by decide) rfl (fun ls hl => ?_)
              refine lv_aload_n hx hb dX12_sign_44 rfl (lv_at hl 1 rfl) ?_
              refine lv_iload hx hb dX12_sign_45 (lv_at hl 0 rfl) ?_
              have hPc := hP.sub (ws' := [((a 0), .inr (12, zMo a zI0))]) [0] rfl
              have hDc := hD.sub (ws' := [((a 0), .inr (12, zMo a zI0))]) [0] (by decide) rfl
              have hKc := hK.sub (tys' := []) [] rfl
              have hFc := va_free (wc := [((a 0), .inr (12, zMo a zI0))]) hD hS hA [0] rfl
              refine va_calli (va_runV (As := [.int 1]) (rest := []) ⟨hx, hb, hml, hown, ht⟩ (k_X12_lacks l _ D a zI0 1 (by decide)) (cwV 1 ht (zG_V zw_62 zw_63 zw_64 zw_2 zw_65) rfl rfl rfl (by decide +kernel) ⟨Nat.le_of_ble_eq_true rfl, Nat.le_of_ble_eq_true rfl⟩) (zM_V (va_recv hK hP (ci := 12) (q0 := 0) rfl rfl) hPc hKc hDc) rfl rfl hl.1 rfl (lv_room (Nat.le_of_ble_eq_true rfl)) dX12_sign_47 ⟨Nat.le_of_ble_eq_true rfl, Nat.le_of_ble_eq_true rfl⟩) hS (fun q _ h => hFc q h) hFc (fun r_57 u_57 t H1 locs ht0 hvm hw_57 hB hz1 hk1 hS => ?_)
              obtain ⟨rfl, rfl⟩ := hw_57.2 (by decide)
              obtain ⟨hP1, hK1, hD1⟩ := hB
              rw [ht0] at hP1
              have hK1 := va_K.moved hvm.symm hK1
              obtain ⟨hP, hD⟩ := va_join (wr := [((a 1), .inl (cI, 6792, .inl zI0)), ((a 2), .inl (cJ, 8, .inr (.inr (.inr (.inr fa))))), ((a 30), .inl (cI, 6792, .inl zI0))]) (w1 := [((a 0), .inr (12, zMo a (upd zI0 0 0)))]) hP hD [0] [1, 2, 3] rfl rfl (by decide) (by decide) hk1 hFc hP1 hD1
              generalize H1 = H at hP hS ⊢
              have hP : va_P D vwCl [((a 1), .inl (cI, 6792, .inl zI0)), ((a 2), .inl (cJ, 8, .inr (.inr (.inr (.inr fa))))), ((a 30), .inl (cI, 6792, .inl zI0)), ((a 0), .inr (12, zMo a (upd zI0 0 0)))] H := hP
              have hD : va_D A [((a 1), .inl (cI, 6792, .inl zI0)), ((a 2), .inl (cJ, 8, .inr (.inr (.inr (.inr fa))))), ((a 30), .inl (cI, 6792, .inl zI0)), ((a 0), .inr (12, zMo a (upd zI0 0 0)))] := hD
              refine lv_if_ne (tgt := 76) hx hb dX12_sign_50 (by decide) (fun c_58 => ?_) (fun c_58 => ?_)
              · skip
                exact absurd c_58 (by decide)
              · skip
                refine lv_aload_n hx hb dX12_sign_53 rfl (lv_at hl 1 rfl) ?_
                refine lv_aload_n hx hb dX12_sign_54 rfl (lv_at hl 1 rfl) ?_
                refine va_get (D := D) (ci := 12) (v := .ref (a 1)) (C := RX12) (T := TX12) (N := 25) hx hb ht zinX12 hown hK hP 3 rfl rfl 1 (by decide) (ht _ zw_34) (fun _ h9 => h9) rfl dX12_sign_55 ?_
                refine lv_iconst (v := 0) hx hb dX12_sign_58 (by decide) ?_
                refine va_iald hx hb hK hP 0 0 rfl rfl (vp_in_iff.mpr (by decide)) dX12_sign_59 ?_
                refine W.eq (g2 := F0 m 60 ls (.int 0 :: .ref (a 0) :: [])) rfl ?_
                refine lv_iconst (v := 4) hx hb dX12_sign_60 (by decide) ?_
                refine lv_icmp_ge (tgt := 68) hx hb dX12_sign_61 (by decide) (fun c_60 => ?_) (fun c_60 => ?_)
                · skip
                  exact absurd c_60 (by decide)
                · skip
                  refine lv_iconst (v := 1) hx hb dX12_sign_64 (by decide) ?_
                  refine lv_goto (tgt := 69) hx hb dX12_sign_65 (by decide) ?_
                  refine lv_iconst (v := 2) hx hb dX12_sign_69 (by decide) ?_
                  have hPc := hP.sub (ws' := [((a 0), .inr (12, zMo a (upd zI0 0 0)))]) [3] rfl
                  have hDc := hD.sub (ws' := [((a 0), .inr (12, zMo a (upd zI0 0 0)))]) [3] (by decide) rfl
                  have hKc := hK.sub (tys' := []) [] rfl
                  have hFc := va_free (wc := [((a 0), .inr (12, zMo a (upd zI0 0 0)))]) hD hS hA [3] rfl
                  refine va_calli (va_runV (As := [.int 1, .int 2]) (rest := []) ⟨hx, hb, hml, hown, ht⟩ (k_X12_no l _ D a (upd zI0 0 0) 1 2 (by decide)) (cwV 2 ht (zG_V zw_30 zw_31 zw_32 zw_2 zw_33) rfl rfl rfl (by decide +kernel) ⟨Nat.le_of_ble_eq_true rfl, Nat.le_of_ble_eq_true rfl⟩) (zM_V (va_recv hK hP (ci := 12) (q0 := 3) rfl rfl) hPc hKc hDc) rfl rfl hl.1 rfl (lv_room (Nat.le_of_ble_eq_true rfl)) dX12_sign_70 ⟨Nat.le_of_ble_eq_true rfl, Nat.le_of_ble_eq_true rfl⟩) hS (fun q _ h => hFc q h) hFc (fun r_61 u_61 t H1 locs ht0 hvm hw_61 hB hz1 hk1 hS => ?_)
                  obtain ⟨rfl, rfl⟩ := hw_61.2 (by decide)
                  obtain ⟨hP1, hK1, hD1⟩ := hB
                  rw [ht0] at hP1
                  have hK1 := va_K.moved hvm.symm hK1
                  obtain ⟨hP, hD⟩ := va_join (wr := [((a 1), .inl (cI, 6792, .inl zI0)), ((a 2), .inl (cJ, 8, .inr (.inr (.inr (.inr fa))))), ((a 30), .inl (cI, 6792, .inl zI0))]) (w1 := [((a 0), .inr (12, zMo a (upd zI0 0 0)))]) hP hD [3] [0, 1, 2] rfl rfl (by decide) (by decide) hk1 hFc hP1 hD1
                  generalize H1 = H at hP hS ⊢
                  have hP : va_P D vwCl [((a 1), .inl (cI, 6792, .inl zI0)), ((a 2), .inl (cJ, 8, .inr (.inr (.inr (.inr fa))))), ((a 30), .inl (cI, 6792, .inl zI0)), ((a 0), .inr (12, zMo a (upd zI0 0 0)))] H := hP
                  have hD : va_D A [((a 1), .inl (cI, 6792, .inl zI0)), ((a 2), .inl (cJ, 8, .inr (.inr (.inr (.inr fa))))), ((a 30), .inl (cI, 6792, .inl zI0)), ((a 0), .inr (12, zMo a (upd zI0 0 0)))] := hD
                  refine lv_if_eq (tgt := 78) hx hb dX12_sign_73 (by decide) (fun c_62 => ?_) (fun c_62 => ?_)
                  · skip
                    refine lv_aload_n hx hb dX12_sign_78 rfl (lv_at hl 1 rfl) ?_
                    have hPc := hP.sub (ws' := [((a 0), .inr (12, zMo a (upd zI0 0 0))), ((a 1), .inl (cI, 6792, .inl zI0)), ((a 2), .inl (cJ, 8, .inr (.inr (.inr (.inr fa))))), ((a 30), .inl (cI, 6792, .inl zI0))]) [3, 0, 1, 2] rfl
                    have hDc := hD.sub (ws' := [((a 0), .inr (12, zMo a (upd zI0 0 0))), ((a 1), .inl (cI, 6792, .inl zI0)), ((a 2), .inl (cJ, 8, .inr (.inr (.inr (.inr fa))))), ((a 30), .inl (cI, 6792, .inl zI0))]) [3, 0, 1, 2] (by decide) rfl
                    have hKc := hK.sub (tys' := [(cI, .int), (cJ, .array .int)]) [0, 1] rfl
                    have hFc := va_free (wc := [((a 0), .inr (12, zMo a (upd zI0 0 0))), ((a 1), .inl (cI, 6792, .inl zI0)), ((a 2), .inl (cJ, 8, .inr (.inr (.inr (.inr fa))))), ((a 30), .inl (cI, 6792, .inl zI0))]) hD hS hA [3, 0, 1, 2] rfl
                    refine va_callv (va_runV (As := []) (rest := []) ⟨hx, hb, hml, hown, ht⟩ (k_X12_keeps l _ D a (upd zI0 0 0) cI cJ zI0 zI0 fa rfl ha) (cwV 0 ht (zG_V zw_104 zw_105 zw_106 zw_2 zw_107) rfl rfl rfl (by decide +kernel) ⟨Nat.le_of_ble_eq_true rfl, Nat.le_of_ble_eq_true rfl⟩) (zM_V (va_recv hK hP (ci := 12) (q0 := 3) rfl rfl) hPc hKc hDc) rfl rfl hl.1 rfl (lv_room (Nat.le_of_ble_eq_true rfl)) dX12_sign_79 ⟨Nat.le_of_ble_eq_true rfl, Nat.le_of_ble_eq_true rfl⟩) hS (fun q _ h => hFc q h) hFc (fun u_63 t H1 locs ht0 hvm hw_63 hB hz1 hk1 hS => ?_)
                    obtain rfl := hw_63
                    obtain ⟨hP1, hK1, hD1⟩ := hB
                    rw [ht0] at hP1
                    have hK1 := va_K.moved hvm.symm hK1
                    obtain ⟨hP, hD⟩ := va_join (wr := []) (w1 := [((a 0), .inr (12, zMo a (upd (upd zI0 0 0) 5 1))), ((a 1), .inl (cI, 6792, .inl zI0))]) hP hD [3, 0, 1, 2] [] rfl rfl (by decide) (by decide) hk1 hFc hP1 hD1
                    generalize H1 = H at hP hS ⊢
                    have hP : va_P D vwCl [((a 0), .inr (12, zMo a (upd (upd zI0 0 0) 5 1))), ((a 1), .inl (cI, 6792, .inl zI0))] H := hP
                    have hD : va_D A [((a 0), .inr (12, zMo a (upd (upd zI0 0 0) 5 1))), ((a 1), .inl (cI, 6792, .inl zI0))] := hD
                    refine lv_aload_n hx hb dX12_sign_82 rfl (lv_at hl 1 rfl) ?_
                    refine va_get (D := D) (ci := 12) (v := .ref (a 1)) (C := RX12) (T := TX12) (N := 25) hx hb ht zinX12 hown hK hP 0 rfl rfl 1 (by decide) (ht _ zw_34) (fun _ h9 => h9) rfl dX12_sign_83 ?_
                    refine lv_iconst (v := 1) hx hb dX12_sign_86 (by decide) ?_
                    refine lv_iconst (v := 3) hx hb dX12_sign_87 (by decide) ?_
                    refine lv_aload_n hx hb dX12_sign_88 rfl (lv_at hl 1 rfl) ?_
                    refine va_get (D := D) (ci := 12) (v := .ref (a 1)) (C := RX12) (T := TX12) (N := 25) hx hb ht zinX12 hown hK hP 0 rfl rfl 1 (by decide) (ht _ zw_34) (fun _ h9 => h9) rfl dX12_sign_89 ?_
                    refine lv_iconst (v := 0) hx hb dX12_sign_92 (by decide) ?_
                    refine va_iald hx hb hK hP 1 0 rfl rfl (vp_in_iff.mpr (by decide)) dX12_sign_93 ?_
                    refine W.eq (g2 := F0 m 94 ls (.int 0 :: .int 3 :: .int 1 :: .ref (a 1) :: [])) rfl ?_
                    refine lv_imul hx hb dX12_sign_94 ?_
                    refine lv_topi (fun x_65 e_65 => ?_)
                    obtain rfl : x_65 = 0 := e_65.trans (by decide)
                    refine lv_iadd hx hb dX12_sign_95 ?_
                    refine lv_topi (fun x_66 e_66 => ?_)
                    obtain rfl : x_66 = 1 := e_66.trans (by decide)
                    refine lv_iload_n hx hb dX12_sign_96 rfl (lv_at hl 2 rfl) ?_
                    refine va_iast hx hb hK hP hD hS 1 0 rfl rfl (vp_in_iff.mpr (by decide)) dX12_sign_97 (fun H locs hP hD hS => ?_)
                    have hP : va_P D vwCl [((a 0), .inr (12, zMo a (upd (upd zI0 0 0) 5 1))), ((a 1), .inl (cI, 6792, .inl (upd zI0 1 p0)))] H := hP
                    have hD : va_D A [((a 0), .inr (12, zMo a (upd (upd zI0 0 0) 5 1))), ((a 1), .inl (cI, 6792, .inl (upd zI0 1 p0)))] := hD
                    refine lv_aload_n hx hb dX12_sign_98 rfl (lv_at hl 1 rfl) ?_
                    refine va_get (D := D) (ci := 12) (v := .ref (a 1)) (C := RX12) (T := TX12) (N := 25) hx hb ht zinX12 hown hK hP 0 rfl rfl 1 (by decide) (ht _ zw_34) (fun _ h9 => h9) rfl dX12_sign_99 ?_
                    refine lv_iconst (v := 1) hx hb dX12_sign_102 (by decide) ?_
                    refine lv_iconst (v := 3) hx hb dX12_sign_103 (by decide) ?_
                    refine lv_aload_n hx hb dX12_sign_104 rfl (lv_at hl 1 rfl) ?_
                    refine va_get (D := D) (ci := 12) (v := .ref (a 1)) (C := RX12) (T := TX12) (N := 25) hx hb ht zinX12 hown hK hP 0 rfl rfl 1 (by decide) (ht _ zw_34) (fun _ h9 => h9) rfl dX12_sign_105 ?_
                    refine lv_iconst (v := 0) hx hb dX12_sign_108 (by decide) ?_
                    refine va_iald hx hb hK hP 1 0 rfl rfl (vp_in_iff.mpr (by decide)) dX12_sign_109 ?_
                    refine W.eq (g2 := F0 m 110 ls (.int 0 :: .int 3 :: .int 1 :: .ref (a 1) :: [])) rfl ?_
                    refine lv_imul hx hb dX12_sign_110 ?_
                    refine lv_topi (fun x_68 e_68 => ?_)
                    obtain rfl : x_68 = 0 := e_68.trans (by decide)
                    refine lv_iadd hx hb dX12_sign_111 ?_
                    refine lv_topi (fun x_69 e_69 => ?_)
                    obtain rfl : x_69 = 1 := e_69.trans (by decide)
                    refine lv_iconst (v := 1) hx hb dX12_sign_112 (by decide) ?_
                    refine lv_iadd hx hb dX12_sign_113 ?_
                    refine lv_topi (fun x_70 e_70 => ?_)
                    obtain rfl : x_70 = 2 := e_70.trans (by decide)
                    refine lv_iload_n hx hb dX12_sign_114 rfl (lv_at hl 3 rfl) ?_
                    refine va_iast hx hb hK hP hD hS 1 0 rfl rfl (vp_in_iff.mpr (by decide)) dX12_sign_115 (fun H locs hP hD hS => ?_)
                    have hP : va_P D vwCl [((a 0), .inr (12, zMo a (upd (upd zI0 0 0) 5 1))), ((a 1), .inl (cI, 6792, .inl (upd (upd zI0 1 p0) 2 p1)))] H := hP
                    have hD : va_D A [((a 0), .inr (12, zMo a (upd (upd zI0 0 0) 5 1))), ((a 1), .inl (cI, 6792, .inl (upd (upd zI0 1 p0) 2 p1)))] := hD
                    refine lv_aload_n hx hb dX12_sign_116 rfl (lv_at hl 1 rfl) ?_
                    refine va_get (D := D) (ci := 12) (v := .ref (a 1)) (C := RX12) (T := TX12) (N := 25) hx hb ht zinX12 hown hK hP 0 rfl rfl 1 (by decide) (ht _ zw_34) (fun _ h9 => h9) rfl dX12_sign_117 ?_
                    refine lv_iconst (v := 1) hx hb dX12_sign_120 (by decide) ?_
                    refine lv_iconst (v := 3) hx hb dX12_sign_121 (by decide) ?_
                    refine lv_aload_n hx hb dX12_sign_122 rfl (lv_at hl 1 rfl) ?_
                    refine va_get (D := D) (ci := 12) (v := .ref (a 1)) (C := RX12) (T := TX12) (N := 25) hx hb ht zinX12 hown hK hP 0 rfl rfl 1 (by decide) (ht _ zw_34) (fun _ h9 => h9) rfl dX12_sign_123 ?_
                    refine lv_iconst (v := 0) hx hb dX12_sign_126 (by decide) ?_
                    refine va_iald hx hb hK hP 1 0 rfl rfl (vp_in_iff.mpr (by decide)) dX12_sign_127 ?_
                    refine W.eq (g2 := F0 m 128 ls (.int 0 :: .int 3 :: .int 1 :: .ref (a 1) :: [])) rfl ?_
                    refine lv_imul hx hb dX12_sign_128 ?_
                    refine lv_topi (fun x_72 e_72 => ?_)
                    obtain rfl : x_72 = 0 := e_72.trans (by decide)
                    refine lv_iadd hx hb dX12_sign_129 ?_
                    refine lv_topi (fun x_73 e_73 => ?_)
                    obtain rfl : x_73 = 1 := e_73.trans (by decide)
                    refine lv_iconst (v := 2) hx hb dX12_sign_130 (by decide) ?_
                    refine lv_iadd hx hb dX12_sign_131 ?_
                    refine lv_topi (fun x_74 e_74 => ?_)
                    obtain rfl : x_74 = 3 := e_74.trans (by decide)
                    refine lv_iload_n hx hb dX12_sign_132 rfl (lv_at hl 4 rfl) ?_
                    refine va_iast hx hb hK hP hD hS 1 0 rfl rfl (vp_in_iff.mpr (by decide)) dX12_sign_133 (fun H locs hP hD hS => ?_)
                    have hP : va_P D vwCl [((a 0), .inr (12, zMo a (upd (upd zI0 0 0) 5 1))), ((a 1), .inl (cI, 6792, .inl (upd (upd (upd zI0 1 p0) 2 p1) 3 p2)))] H := hP
                    have hD : va_D A [((a 0), .inr (12, zMo a (upd (upd zI0 0 0) 5 1))), ((a 1), .inl (cI, 6792, .inl (upd (upd (upd zI0 1 p0) 2 p1) 3 p2)))] := hD
                    refine lv_aload_n hx hb dX12_sign_134 rfl (lv_at hl 1 rfl) ?_
                    refine va_get (D := D) (ci := 12) (v := .ref (a 1)) (C := RX12) (T := TX12) (N := 25) hx hb ht zinX12 hown hK hP 0 rfl rfl 1 (by decide) (ht _ zw_34) (fun _ h9 => h9) rfl dX12_sign_135 ?_
                    refine lv_iconst (v := 0) hx hb dX12_sign_138 (by decide) ?_
                    refine lv_dup2_11 hx hb dX12_sign_139 rfl rfl ?_
                    refine va_iald hx hb hK hP 1 0 rfl rfl (vp_in_iff.mpr (by decide)) dX12_sign_140 ?_
                    refine W.eq (g2 := F0 m 141 ls (.int 0 :: .int 0 :: .ref (a 1) :: [])) rfl ?_
                    refine lv_iconst (v := 1) hx hb dX12_sign_141 (by decide) ?_
                    refine lv_iadd hx hb dX12_sign_142 ?_
                    refine lv_topi (fun x_76 e_76 => ?_)
                    obtain rfl : x_76 = 1 := e_76.trans (by decide)
                    refine va_iast hx hb hK hP hD hS 1 0 rfl rfl (vp_in_iff.mpr (by decide)) dX12_sign_143 (fun H locs hP hD hS => ?_)
                    have hP : va_P D vwCl [((a 0), .inr (12, zMo a (upd (upd zI0 0 0) 5 1))), ((a 1), .inl (cI, 6792, .inl (upd (upd (upd (upd zI0 1 p0) 2 p1) 3 p2) 0 1)))] H := hP
                    have hD : va_D A [((a 0), .inr (12, zMo a (upd (upd zI0 0 0) 5 1))), ((a 1), .inl (cI, 6792, .inl (upd (upd (upd (upd zI0 1 p0) 2 p1) 3 p2) 0 1)))] := hD
                    refine lv_aload_n hx hb dX12_sign_144 rfl (lv_at hl 1 rfl) ?_
                    refine va_get (D := D) (ci := 12) (v := .ref (a 1)) (C := RX12) (T := TX12) (N := 25) hx hb ht zinX12 hown hK hP 0 rfl rfl 1 (by decide) (ht _ zw_34) (fun _ h9 => h9) rfl dX12_sign_145 ?_
                    refine lv_iconst (v := 0) hx hb dX12_sign_148 (by decide) ?_
                    refine va_iald hx hb hK hP 1 0 rfl rfl (vp_in_iff.mpr (by decide)) dX12_sign_149 ?_
                    refine W.eq (g2 := F0 m 150 ls (.int 1 :: [])) rfl ?_
                    refine lv_iconst (v := 1) hx hb dX12_sign_150 (by decide) ?_
                    refine lv_isub hx hb dX12_sign_151 ?_
                    refine lv_topi (fun x_78 e_78 => ?_)
                    obtain rfl : x_78 = 0 := e_78.trans (by decide)
                    have hP9 := hP.sub (ws' := [((a 0), .inr (12, zMo a (upd (upd zI0 0 0) 5 1)))]) [0] rfl
                    have hD9 := hD.sub (ws' := [((a 0), .inr (12, zMo a (upd (upd zI0 0 0) 5 1)))]) [0] (by decide) rfl
                    have hK9 := hK.sub (tys' := []) [] rfl
                    refine W.widen (k := 0) (n := 0) (Nat.le_of_ble_eq_true rfl) (Nat.le_of_ble_eq_true rfl) ?_
                    exact W.iret (v := 0) hx hb hr (fun t ht0 hW => ⟨⟨0, upd (upd zI0 0 0) 5 1, rfl, (show zS_sign p0 p1 p2 0 0 from (.inr ⟨rfl, by omega, rfl⟩)), (zE_of hP9 hK9 hD9 ht0 hW)⟩, hS.F ht0⟩) hS.2.2 dX12_sign_152
                  · skip
                    exact absurd c_62 (by decide)
            · skip
              simp only [fa_lt, fa_le, fa_eq, Int32.reduceToInt] at c_56
              refine lv_iload_n hx hb dX12_sign_28 rfl (lv_at hl 3 rfl) ?_
              refine lv_iconst (v := 0) hx hb dX12_sign_29 (by decide) ?_
              refine lv_iconst (v := 2) hx hb dX12_sign_30 (by decide) ?_
              refine vp_callSi (va_runS (As := [.int p2, .int 0, .int 2]) (rest := []) ⟨hx, hb, hml, hown, ht⟩ (k_X12_in l p2 0 2) (va_cwS 3 ht (zG_S zw_0 zw_1 zw_2 zw_3) rfl rfl rfl (by decide +kernel) ⟨Nat.le_of_ble_eq_true rfl, Nat.le_of_ble_eq_true rfl⟩) zN_S rfl rfl hl.1 rfl (lv_room (Nat.le_of_ble_eq_true rfl)) dX12_sign_31 ⟨Nat.le_of_ble_eq_true rfl, Nat.le_of_ble_eq_true rfl⟩).run (fun r_79 hw_79 => ?_)
              rcases hw_79 with ⟨rfl, h_79⟩ | ⟨rfl, h_79⟩
              · skip
                simp only [Int32.reduceToInt] at h_79
                refine lv_if_eq (tgt := 41) hx hb dX12_sign_34 (by decide) (fun c_80 => ?_) (fun c_80 => ?_)
                · skip
                  exact absurd c_80 (by decide)
                · skip
                  refine lv_iconst (v := 1) hx hb dX12_sign_37 (by decide) ?_
                  refine lv_goto (tgt := 42) hx hb dX12_sign_38 (by decide) ?_
                  refine lv_istore (lv' := [(4, .int 1), (0, .ref (a 0)), (1, .int p0), (2, .int p1), (3, .int p2)]) hx hb dX12_sign_42 hl (by decide) rfl (fun ls hl => ?_)
                  refine lv_aload_n hx hb dX12_sign_44 rfl (lv_at hl 1 rfl) ?_
                  refine lv_iload hx hb dX12_sign_45 (lv_at hl 0 rfl) ?_
                  have hPc := hP.sub (ws' := [((a 0), .inr (12, zMo a zI0))]) [0] rfl
                  have hDc := hD.sub (ws' := [((a 0), .inr (12, zMo a zI0))]) [0] (by decide) rfl
                  have hKc := hK.sub (tys' := []) [] rfl
                  have hFc := va_free (wc := [((a 0), .inr (12, zMo a zI0))]) hD hS hA [0] rfl
                  refine va_calli (va_runV (As := [.int 1]) (rest := []) ⟨hx, hb, hml, hown, ht⟩ (k_X12_lacks l _ D a zI0 1 (by decide)) (cwV 1 ht (zG_V zw_62 zw_63 zw_64 zw_2 zw_65) rfl rfl rfl (by decide +kernel) ⟨Nat.le_of_ble_eq_true rfl, Nat.le_of_ble_eq_true rfl⟩) (zM_V (va_recv hK hP (ci := 12) (q0 := 0) rfl rfl) hPc hKc hDc) rfl rfl hl.1 rfl (lv_room (Nat.le_of_ble_eq_true rfl)) dX12_sign_47 ⟨Nat.le_of_ble_eq_true rfl, Nat.le_of_ble_eq_true rfl⟩) hS (fun q _ h => hFc q h) hFc (fun r_81 u_81 t H1 locs ht0 hvm hw_81 hB hz1 hk1 hS => ?_)
                  obtain ⟨rfl, rfl⟩ := hw_81.2 (by decide)
                  obtain ⟨hP1, hK1, hD1⟩ := hB
                  rw [ht0] at hP1
                  have hK1 := va_K.moved hvm.symm hK1
                  obtain ⟨hP, hD⟩ := va_join (wr := [((a 1), .inl (cI, 6792, .inl zI0)), ((a 2), .inl (cJ, 8, .inr (.inr (.inr (.inr fa))))), ((a 30), .inl (cI, 6792, .inl zI0))]) (w1 := [((a 0), .inr (12, zMo a (upd zI0 0 0)))]) hP hD [0] [1, 2, 3] rfl rfl (by decide) (by decide) hk1 hFc hP1 hD1
                  generalize H1 = H at hP hS ⊢
                  have hP : va_P D vwCl [((a 1), .inl (cI, 6792, .inl zI0)), ((a 2), .inl (cJ, 8, .inr (.inr (.inr (.inr fa))))), ((a 30), .inl (cI, 6792, .inl zI0)), ((a 0), .inr (12, zMo a (upd zI0 0 0)))] H := hP
                  have hD : va_D A [((a 1), .inl (cI, 6792, .inl zI0)), ((a 2), .inl (cJ, 8, .inr (.inr (.inr (.inr fa))))), ((a 30), .inl (cI, 6792, .inl zI0)), ((a 0), .inr (12, zMo a (upd zI0 0 0)))] := hD
                  refine lv_if_ne (tgt := 76) hx hb dX12_sign_50 (by decide) (fun c_82 => ?_) (fun c_82 => ?_)
                  · skip
                    exact absurd c_82 (by decide)
                  · skip
                    refine lv_aload_n hx hb dX12_sign_53 rfl (lv_at hl 1 rfl) ?_
                    refine lv_aload_n hx hb dX12_sign_54 rfl (lv_at hl 1 rfl) ?_
                    refine va_get (D := D) (ci := 12) (v := .ref (a 1)) (C := RX12) (T := TX12) (N := 25) hx hb ht zinX12 hown hK hP 3 rfl rfl 1 (by decide) (ht _ zw_34) (fun _ h9 => h9) rfl dX12_sign_55 ?_
                    refine lv_iconst (v := 0) hx hb dX12_sign_58 (by decide) ?_
                    refine va_iald hx hb hK hP 0 0 rfl rfl (vp_in_iff.mpr (by decide)) dX12_sign_59 ?_
                    refine W.eq (g2 := F0 m 60 ls (.int 0 :: .ref (a 0) :: [])) rfl ?_
                    refine lv_iconst (v := 4) hx hb dX12_sign_60 (by decide) ?_
                    refine lv_icmp_ge (tgt := 68) hx hb dX12_sign_61 (by decide) (fun c_84 => ?_) (fun c_84 => ?_)
                    · skip
                      exact absurd c_84 (by decide)
                    · skip
                      refine lv_iconst (v := 1) hx hb dX12_sign_64 (by decide) ?_
                      refine lv_goto (tgt := 69) hx hb dX12_sign_65 (by decide) ?_
                      refine lv_iconst (v := 2) hx hb dX12_sign_69 (by decide) ?_
                      have hPc := hP.sub (ws' := [((a 0), .inr (12, zMo a (upd zI0 0 0)))]) [3] rfl
                      have hDc := hD.sub (ws' := [((a 0), .inr (12, zMo a (upd zI0 0 0)))]) [3] (by decide) rfl
                      have hKc := hK.sub (tys' := []) [] rfl
                      have hFc := va_free (wc := [((a 0), .inr (12, zMo a (upd zI0 0 0)))]) hD hS hA [3] rfl
                      refine va_calli (va_runV (As := [.int 1, .int 2]) (rest := []) ⟨hx, hb, hml, hown, ht⟩ (k_X12_no l _ D a (upd zI0 0 0) 1 2 (by decide)) (cwV 2 ht (zG_V zw_30 zw_31 zw_32 zw_2 zw_33) rfl rfl rfl (by decide +kernel) ⟨Nat.le_of_ble_eq_true rfl, Nat.le_of_ble_eq_true rfl⟩) (zM_V (va_recv hK hP (ci := 12) (q0 := 3) rfl rfl) hPc hKc hDc) rfl rfl hl.1 rfl (lv_room (Nat.le_of_ble_eq_true rfl)) dX12_sign_70 ⟨Nat.le_of_ble_eq_true rfl, Nat.le_of_ble_eq_true rfl⟩) hS (fun q _ h => hFc q h) hFc (fun r_85 u_85 t H1 locs ht0 hvm hw_85 hB hz1 hk1 hS => ?_)
                      obtain ⟨rfl, rfl⟩ := hw_85.2 (by decide)
                      obtain ⟨hP1, hK1, hD1⟩ := hB
                      rw [ht0] at hP1
                      have hK1 := va_K.moved hvm.symm hK1
                      obtain ⟨hP, hD⟩ := va_join (wr := [((a 1), .inl (cI, 6792, .inl zI0)), ((a 2), .inl (cJ, 8, .inr (.inr (.inr (.inr fa))))), ((a 30), .inl (cI, 6792, .inl zI0))]) (w1 := [((a 0), .inr (12, zMo a (upd zI0 0 0)))]) hP hD [3] [0, 1, 2] rfl rfl (by decide) (by decide) hk1 hFc hP1 hD1
                      generalize H1 = H at hP hS ⊢
                      have hP : va_P D vwCl [((a 1), .inl (cI, 6792, .inl zI0)), ((a 2), .inl (cJ, 8, .inr (.inr (.inr (.inr fa))))), ((a 30), .inl (cI, 6792, .inl zI0)), ((a 0), .inr (12, zMo a (upd zI0 0 0)))] H := hP
                      have hD : va_D A [((a 1), .inl (cI, 6792, .inl zI0)), ((a 2), .inl (cJ, 8, .inr (.inr (.inr (.inr fa))))), ((a 30), .inl (cI, 6792, .inl zI0)), ((a 0), .inr (12, zMo a (upd zI0 0 0)))] := hD
                      refine lv_if_eq (tgt := 78) hx hb dX12_sign_73 (by decide) (fun c_86 => ?_) (fun c_86 => ?_)
                      · skip
                        refine lv_aload_n hx hb dX12_sign_78 rfl (lv_at hl 1 rfl) ?_
                        have hPc := hP.sub (ws' := [((a 0), .inr (12, zMo a (upd zI0 0 0))), ((a 1), .inl (cI, 6792, .inl zI0)), ((a 2), .inl (cJ, 8, .inr (.inr (.inr (.inr fa))))), ((a 30), .inl (cI, 6792, .inl zI0))]) [3, 0, 1, 2] rfl
                        have hDc := hD.sub (ws' := [((a 0), .inr (12, zMo a (upd zI0 0 0))), ((a 1), .inl (cI, 6792, .inl zI0)), ((a 2), .inl (cJ, 8, .inr (.inr (.inr (.inr fa))))), ((a 30), .inl (cI, 6792, .inl zI0))]) [3, 0, 1, 2] (by decide) rfl
                        have hKc := hK.sub (tys' := [(cI, .int), (cJ, .array .int)]) [0, 1] rfl
                        have hFc := va_free (wc := [((a 0), .inr (12, zMo a (upd zI0 0 0))), ((a 1), .inl (cI, 6792, .inl zI0)), ((a 2), .inl (cJ, 8, .inr (.inr (.inr (.inr fa))))), ((a 30), .inl (cI, 6792, .inl zI0))]) hD hS hA [3, 0, 1, 2] rfl
                        refine va_callv (va_runV (As := []) (rest := []) ⟨hx, hb, hml, hown, ht⟩ (k_X12_keeps l _ D a (upd zI0 0 0) cI cJ zI0 zI0 fa rfl ha) (cwV 0 ht (zG_V zw_104 zw_105 zw_106 zw_2 zw_107) rfl rfl rfl (by decide +kernel) ⟨Nat.le_of_ble_eq_true rfl, Nat.le_of_ble_eq_true rfl⟩) (zM_V (va_recv hK hP (ci := 12) (q0 := 3) rfl rfl) hPc hKc hDc) rfl rfl hl.1 rfl (lv_room (Nat.le_of_ble_eq_true rfl)) dX12_sign_79 ⟨Nat.le_of_ble_eq_true rfl, Nat.le_of_ble_eq_true rfl⟩) hS (fun q _ h => hFc q h) hFc (fun u_87 t H1 locs ht0 hvm hw_87 hB hz1 hk1 hS => ?_)
                        obtain rfl := hw_87
                        obtain ⟨hP1, hK1, hD1⟩ := hB
                        rw [ht0] at hP1
                        have hK1 := va_K.moved hvm.symm hK1
                        obtain ⟨hP, hD⟩ := va_join (wr := []) (w1 := [((a 0), .inr (12, zMo a (upd (upd zI0 0 0) 5 1))), ((a 1), .inl (cI, 6792, .inl zI0))]) hP hD [3, 0, 1, 2] [] rfl rfl (by decide) (by decide) hk1 hFc hP1 hD1
                        generalize H1 = H at hP hS ⊢
                        have hP : va_P D vwCl [((a 0), .inr (12, zMo a (upd (upd zI0 0 0) 5 1))), ((a 1), .inl (cI, 6792, .inl zI0))] H := hP
                        have hD : va_D A [((a 0), .inr (12, zMo a (upd (upd zI0 0 0) 5 1))), ((a 1), .inl (cI, 6792, .inl zI0))] := hD
                        refine lv_aload_n hx hb dX12_sign_82 rfl (lv_at hl 1 rfl) ?_
                        refine va_get (D := D) (ci := 12) (v := .ref (a 1)) (C := RX12) (T := TX12) (N := 25) hx hb ht zinX12 hown hK hP 0 rfl rfl 1 (by decide) (ht _ zw_34) (fun _ h9 => h9) rfl dX12_sign_83 ?_
                        refine lv_iconst (v := 1) hx hb dX12_sign_86 (by decide) ?_
                        refine lv_iconst (v := 3) hx hb dX12_sign_87 (by decide) ?_
                        refine lv_aload_n hx hb dX12_sign_88 rfl (lv_at hl 1 rfl) ?_
                        refine va_get (D := D) (ci := 12) (v := .ref (a 1)) (C := RX12) (T := TX12) (N := 25) hx hb ht zinX12 hown hK hP 0 rfl rfl 1 (by decide) (ht _ zw_34) (fun _ h9 => h9) rfl dX12_sign_89 ?_
                        refine lv_iconst (v := 0) hx hb dX12_sign_92 (by decide) ?_
                        refine va_iald hx hb hK hP 1 0 rfl rfl (vp_in_iff.mpr (by decide)) dX12_sign_93 ?_
                        refine W.eq (g2 := F0 m 94 ls (.int 0 :: .int 3 :: .int 1 :: .ref (a 1) :: [])) rfl ?_
                        refine lv_imul hx hb dX12_sign_94 ?_
                        refine lv_topi (fun x_89 e_89 => ?_)
                        obtain rfl : x_89 = 0 := e_89.trans (by decide)
                        refine lv_iadd hx hb dX12_sign_95 ?_
                        refine lv_topi (fun x_90 e_90 => ?_)
                        obtain rfl : x_90 = 1 := e_90.trans (by decide)
                        refine lv_iload_n hx hb dX12_sign_96 rfl (lv_at hl 2 rfl) ?_
                        refine va_iast hx hb hK hP hD hS 1 0 rfl rfl (vp_in_iff.mpr (by decide)) dX12_sign_97 (fun H locs hP hD hS => ?_)
                        have hP : va_P D vwCl [((a 0), .inr (12, zMo a (upd (upd zI0 0 0) 5 1))), ((a 1), .inl (cI, 6792, .inl (upd zI0 1 p0)))] H := hP
                        have hD : va_D A [((a 0), .inr (12, zMo a (upd (upd zI0 0 0) 5 1))), ((a 1), .inl (cI, 6792, .inl (upd zI0 1 p0)))] := hD
                        refine lv_aload_n hx hb dX12_sign_98 rfl (lv_at hl 1 rfl) ?_
                        refine va_get (D := D) (ci := 12) (v := .ref (a 1)) (C := RX12) (T := TX12) (N := 25) hx hb ht zinX12 hown hK hP 0 rfl rfl 1 (by decide) (ht _ zw_34) (fun _ h9 => h9) rfl dX12_sign_99 ?_
                        refine lv_iconst (v := 1) hx hb dX12_sign_102 (by decide) ?_
                        refine lv_iconst (v := 3) hx hb dX12_sign_103 (by decide) ?_
                        refine lv_aload_n hx hb dX12_sign_104 rfl (lv_at hl 1 rfl) ?_
                        refine va_get (D := D) (ci := 12) (v := .ref (a 1)) (C := RX12) (T := TX12) (N := 25) hx hb ht zinX12 hown hK hP 0 rfl rfl 1 (by decide) (ht _ zw_34) (fun _ h9 => h9) rfl dX12_sign_105 ?_
                        refine lv_iconst (v := 0) hx hb dX12_sign_108 (by decide) ?_
                        refine va_iald hx hb hK hP 1 0 rfl rfl (vp_in_iff.mpr (by decide)) dX12_sign_109 ?_
                        refine W.eq (g2 := F0 m 110 ls (.int 0 :: .int 3 :: .int 1 :: .ref (a 1) :: [])) rfl ?_
                        refine lv_imul hx hb dX12_sign_110 ?_
                        refine lv_topi (fun x_92 e_92 => ?_)
                        obtain rfl : x_92 = 0 := e_92.trans (by decide)
                        refine lv_iadd hx hb dX12_sign_111 ?_
                        refine lv_topi (fun x_93 e_93 => ?_)
                        obtain rfl : x_93 = 1 := e_93.trans (by decide)
                        refine lv_iconst (v := 1) hx hb dX12_sign_112 (by decide) ?_
                        refine lv_iadd hx hb dX12_sign_113 ?_
                        refine lv_topi (fun x_94 e_94 => ?_)
                        obtain rfl : x_94 = 2 := e_94.trans (by decide)
                        refine lv_iload_n hx hb dX12_sign_114 rfl (lv_at hl 3 rfl) ?_
                        refine va_iast hx hb hK hP hD hS 1 0 rfl rfl (vp_in_iff.mpr (by decide)) dX12_sign_115 (fun H locs hP hD hS => ?_)
                        have hP : va_P D vwCl [((a 0), .inr (12, zMo a (upd (upd zI0 0 0) 5 1))), ((a 1), .inl (cI, 6792, .inl (upd (upd zI0 1 p0) 2 p1)))] H := hP
                        have hD : va_D A [((a 0), .inr (12, zMo a (upd (upd zI0 0 0) 5 1))), ((a 1), .inl (cI, 6792, .inl (upd (upd zI0 1 p0) 2 p1)))] := hD
                        refine lv_aload_n hx hb dX12_sign_116 rfl (lv_at hl 1 rfl) ?_
                        refine va_get (D := D) (ci := 12) (v := .ref (a 1)) (C := RX12) (T := TX12) (N := 25) hx hb ht zinX12 hown hK hP 0 rfl rfl 1 (by decide) (ht _ zw_34) (fun _ h9 => h9) rfl dX12_sign_117 ?_
                        refine lv_iconst (v := 1) hx hb dX12_sign_120 (by decide) ?_
                        refine lv_iconst (v := 3) hx hb dX12_sign_121 (by decide) ?_
                        refine lv_aload_n hx hb dX12_sign_122 rfl (lv_at hl 1 rfl) ?_
                        refine va_get (D := D) (ci := 12) (v := .ref (a 1)) (C := RX12) (T := TX12) (N := 25) hx hb ht zinX12 hown hK hP 0 rfl rfl 1 (by decide) (ht _ zw_34) (fun _ h9 => h9) rfl dX12_sign_123 ?_
                        refine lv_iconst (v := 0) hx hb dX12_sign_126 (by decide) ?_
                        refine va_iald hx hb hK hP 1 0 rfl rfl (vp_in_iff.mpr (by decide)) dX12_sign_127 ?_
                        refine W.eq (g2 := F0 m 128 ls (.int 0 :: .int 3 :: .int 1 :: .ref (a 1) :: [])) rfl ?_
                        refine lv_imul hx hb dX12_sign_128 ?_
                        refine lv_topi (fun x_96 e_96 => ?_)
                        obtain rfl : x_96 = 0 := e_96.trans (by decide)
                        refine lv_iadd hx hb dX12_sign_129 ?_
                        refine lv_topi (fun x_97 e_97 => ?_)
                        obtain rfl : x_97 = 1 := e_97.trans (by decide)
                        refine lv_iconst (v := 2) hx hb dX12_sign_130 (by decide) ?_
                        refine lv_iadd hx hb dX12_sign_131 ?_
                        refine lv_topi (fun x_98 e_98 => ?_)
                        obtain rfl : x_98 = 3 := e_98.trans (by decide)
                        refine lv_iload_n hx hb dX12_sign_132 rfl (lv_at hl 4 rfl) ?_
                        refine va_iast hx hb hK hP hD hS 1 0 rfl rfl (vp_in_iff.mpr (by decide)) dX12_sign_133 (fun H locs hP hD hS => ?_)
                        have hP : va_P D vwCl [((a 0), .inr (12, zMo a (upd (upd zI0 0 0) 5 1))), ((a 1), .inl (cI, 6792, .inl (upd (upd (upd zI0 1 p0) 2 p1) 3 p2)))] H := hP
                        have hD : va_D A [((a 0), .inr (12, zMo a (upd (upd zI0 0 0) 5 1))), ((a 1), .inl (cI, 6792, .inl (upd (upd (upd zI0 1 p0) 2 p1) 3 p2)))] := hD
                        refine lv_aload_n hx hb dX12_sign_134 rfl (lv_at hl 1 rfl) ?_
                        refine va_get (D := D) (ci := 12) (v := .ref (a 1)) (C := RX12) (T := TX12) (N := 25) hx hb ht zinX12 hown hK hP 0 rfl rfl 1 (by decide) (ht _ zw_34) (fun _ h9 => h9) rfl dX12_sign_135 ?_
                        refine lv_iconst (v := 0) hx hb dX12_sign_138 (by decide) ?_
                        refine lv_dup2_11 hx hb dX12_sign_139 rfl rfl ?_
                        refine va_iald hx hb hK hP 1 0 rfl rfl (vp_in_iff.mpr (by decide)) dX12_sign_140 ?_
                        refine W.eq (g2 := F0 m 141 ls (.int 0 :: .int 0 :: .ref (a 1) :: [])) rfl ?_
                        refine lv_iconst (v := 1) hx hb dX12_sign_141 (by decide) ?_
                        refine lv_iadd hx hb dX12_sign_142 ?_
                        refine lv_topi (fun x_100 e_100 => ?_)
                        obtain rfl : x_100 = 1 := e_100.trans (by decide)
                        refine va_iast hx hb hK hP hD hS 1 0 rfl rfl (vp_in_iff.mpr (by decide)) dX12_sign_143 (fun H locs hP hD hS => ?_)
                        have hP : va_P D vwCl [((a 0), .inr (12, zMo a (upd (upd zI0 0 0) 5 1))), ((a 1), .inl (cI, 6792, .inl (upd (upd (upd (upd zI0 1 p0) 2 p1) 3 p2) 0 1)))] H := hP
                        have hD : va_D A [((a 0), .inr (12, zMo a (upd (upd zI0 0 0) 5 1))), ((a 1), .inl (cI, 6792, .inl (upd (upd (upd (upd zI0 1 p0) 2 p1) 3 p2) 0 1)))] := hD
                        refine lv_aload_n hx hb dX12_sign_144 rfl (lv_at hl 1 rfl) ?_
                        refine va_get (D := D) (ci := 12) (v := .ref (a 1)) (C := RX12) (T := TX12) (N := 25) hx hb ht zinX12 hown hK hP 0 rfl rfl 1 (by decide) (ht _ zw_34) (fun _ h9 => h9) rfl dX12_sign_145 ?_
                        refine lv_iconst (v := 0) hx hb dX12_sign_148 (by decide) ?_
                        refine va_iald hx hb hK hP 1 0 rfl rfl (vp_in_iff.mpr (by decide)) dX12_sign_149 ?_
                        refine W.eq (g2 := F0 m 150 ls (.int 1 :: [])) rfl ?_
                        refine lv_iconst (v := 1) hx hb dX12_sign_150 (by decide) ?_
                        refine lv_isub hx hb dX12_sign_151 ?_
                        refine lv_topi (fun x_102 e_102 => ?_)
                        obtain rfl : x_102 = 0 := e_102.trans (by decide)
                        have hP9 := hP.sub (ws' := [((a 0), .inr (12, zMo a (upd (upd zI0 0 0) 5 1)))]) [0] rfl
                        have hD9 := hD.sub (ws' := [((a 0), .inr (12, zMo a (upd (upd zI0 0 0) 5 1)))]) [0] (by decide) rfl
                        have hK9 := hK.sub (tys' := []) [] rfl
                        refine W.widen (k := 0) (n := 0) (Nat.le_of_ble_eq_true rfl) (Nat.le_of_ble_eq_true rfl) ?_
                        exact W.iret (v := 0) hx hb hr (fun t ht0 hW => ⟨⟨0, upd (upd zI0 0 0) 5 1, rfl, (show zS_sign p0 p1 p2 0 0 from (.inr ⟨rfl, by omega, rfl⟩)), (zE_of hP9 hK9 hD9 ht0 hW)⟩, hS.F ht0⟩) hS.2.2 dX12_sign_152
                      · skip
                        exact absurd c_86 (by decide)
              · skip
                simp only [Int32.reduceToInt] at h_79
                refine lv_if_eq (tgt := 41) hx hb dX12_sign_34 (by decide) (fun c_103 => ?_) (fun c_103 => ?_)
                · skip
                  refine lv_iconst (v := 0) hx hb dX12_sign_41 (by decide) ?_
                  refine lv_istore (lv' := [(4, .int 0), (0, .ref (a 0)), (1, .int p0), (2, .int p1), (3, .int p2)]) hx hb dX12_sign_42 hl (by decide) rfl (fun ls hl => ?_)
                  refine lv_aload_n hx hb dX12_sign_44 rfl (lv_at hl 1 rfl) ?_
                  refine lv_iload hx hb dX12_sign_45 (lv_at hl 0 rfl) ?_
                  have hPc := hP.sub (ws' := [((a 0), .inr (12, zMo a zI0))]) [0] rfl
                  have hDc := hD.sub (ws' := [((a 0), .inr (12, zMo a zI0))]) [0] (by decide) rfl
                  have hKc := hK.sub (tys' := []) [] rfl
                  have hFc := va_free (wc := [((a 0), .inr (12, zMo a zI0))]) hD hS hA [0] rfl
                  refine va_calli (va_runV (As := [.int 0]) (rest := []) ⟨hx, hb, hml, hown, ht⟩ (k_X12_lacks l _ D a zI0 0 (by decide)) (cwV 1 ht (zG_V zw_62 zw_63 zw_64 zw_2 zw_65) rfl rfl rfl (by decide +kernel) ⟨Nat.le_of_ble_eq_true rfl, Nat.le_of_ble_eq_true rfl⟩) (zM_V (va_recv hK hP (ci := 12) (q0 := 0) rfl rfl) hPc hKc hDc) rfl rfl hl.1 rfl (lv_room (Nat.le_of_ble_eq_true rfl)) dX12_sign_47 ⟨Nat.le_of_ble_eq_true rfl, Nat.le_of_ble_eq_true rfl⟩) hS (fun q _ h => hFc q h) hFc (fun r_104 u_104 t H1 locs ht0 hvm hw_104 hB hz1 hk1 hS => ?_)
                  obtain ⟨rfl, rfl⟩ := hw_104.1 rfl
                  obtain ⟨hP1, hK1, hD1⟩ := hB
                  rw [ht0] at hP1
                  have hK1 := va_K.moved hvm.symm hK1
                  obtain ⟨hP, hD⟩ := va_join (wr := [((a 1), .inl (cI, 6792, .inl zI0)), ((a 2), .inl (cJ, 8, .inr (.inr (.inr (.inr fa))))), ((a 30), .inl (cI, 6792, .inl zI0))]) (w1 := [((a 0), .inr (12, zMo a (upd zI0 0 1)))]) hP hD [0] [1, 2, 3] rfl rfl (by decide) (by decide) hk1 hFc hP1 hD1
                  generalize H1 = H at hP hS ⊢
                  have hP : va_P D vwCl [((a 1), .inl (cI, 6792, .inl zI0)), ((a 2), .inl (cJ, 8, .inr (.inr (.inr (.inr fa))))), ((a 30), .inl (cI, 6792, .inl zI0)), ((a 0), .inr (12, zMo a (upd zI0 0 1)))] H := hP
                  have hD : va_D A [((a 1), .inl (cI, 6792, .inl zI0)), ((a 2), .inl (cJ, 8, .inr (.inr (.inr (.inr fa))))), ((a 30), .inl (cI, 6792, .inl zI0)), ((a 0), .inr (12, zMo a (upd zI0 0 1)))] := hD
                  refine lv_if_ne (tgt := 76) hx hb dX12_sign_50 (by decide) (fun c_105 => ?_) (fun c_105 => ?_)
                  · skip
                    refine lv_iconst (v := 0) hx hb dX12_sign_76 (by decide) ?_
                    have hP9 := hP.sub (ws' := [((a 0), .inr (12, zMo a (upd zI0 0 1)))]) [3] rfl
                    have hD9 := hD.sub (ws' := [((a 0), .inr (12, zMo a (upd zI0 0 1)))]) [3] (by decide) rfl
                    have hK9 := hK.sub (tys' := []) [] rfl
                    refine W.widen (k := 0) (n := 0) (Nat.le_of_ble_eq_true rfl) (Nat.le_of_ble_eq_true rfl) ?_
                    exact W.iret (v := 0) hx hb hr (fun t ht0 hW => ⟨⟨0, upd zI0 0 1, rfl, (show zS_sign p0 p1 p2 1 0 from (.inl ⟨rfl, by omega⟩)), (zE_of hP9 hK9 hD9 ht0 hW)⟩, hS.F ht0⟩) hS.2.2 dX12_sign_77
                  · skip
                    exact absurd c_105 (by decide)
                · skip
                  exact absurd c_103 (by decide)
        · skip
          simp only [Int32.reduceToInt] at h_54
          refine lv_if_eq (tgt := 41) hx hb dX12_sign_20 (by decide) (fun c_106 => ?_) (fun c_106 => ?_)
          · skip
            refine lv_iconst (v := 0) hx hb dX12_sign_41 (by decide) ?_
            refine lv_istore (lv' := [(4, .int 0), (0, .ref (a 0)), (1, .int p0), (2, .int p1), (3, .int p2)]) hx hb dX12_sign_42 hl (by decide) rfl (fun ls hl => ?_)
            refine lv_aload_n hx hb dX12_sign_44 rfl (lv_at hl 1 rfl) ?_
            refine lv_iload hx hb dX12_sign_45 (lv_at hl 0 rfl) ?_
            have hPc := hP.sub (ws' := [((a 0), .inr (12, zMo a zI0))]) [0] rfl
            have hDc := hD.sub (ws' := [((a 0), .inr (12, zMo a zI0))]) [0] (by decide) rfl
            have hKc := hK.sub (tys' := []) [] rfl
            have hFc := va_free (wc := [((a 0), .inr (12, zMo a zI0))]) hD hS hA [0] rfl
            refine va_calli (va_runV (As := [.int 0]) (rest := []) ⟨hx, hb, hml, hown, ht⟩ (k_X12_lacks l _ D a zI0 0 (by decide)) (cwV 1 ht (zG_V zw_62 zw_63 zw_64 zw_2 zw_65) rfl rfl rfl (by decide +kernel) ⟨Nat.le_of_ble_eq_true rfl, Nat.le_of_ble_eq_true rfl⟩) (zM_V (va_recv hK hP (ci := 12) (q0 := 0) rfl rfl) hPc hKc hDc) rfl rfl hl.1 rfl (lv_room (Nat.le_of_ble_eq_true rfl)) dX12_sign_47 ⟨Nat.le_of_ble_eq_true rfl, Nat.le_of_ble_eq_true rfl⟩) hS (fun q _ h => hFc q h) hFc (fun r_107 u_107 t H1 locs ht0 hvm hw_107 hB hz1 hk1 hS => ?_)
            obtain ⟨rfl, rfl⟩ := hw_107.1 rfl
            obtain ⟨hP1, hK1, hD1⟩ := hB
            rw [ht0] at hP1
            have hK1 := va_K.moved hvm.symm hK1
            obtain ⟨hP, hD⟩ := va_join (wr := [((a 1), .inl (cI, 6792, .inl zI0)), ((a 2), .inl (cJ, 8, .inr (.inr (.inr (.inr fa))))), ((a 30), .inl (cI, 6792, .inl zI0))]) (w1 := [((a 0), .inr (12, zMo a (upd zI0 0 1)))]) hP hD [0] [1, 2, 3] rfl rfl (by decide) (by decide) hk1 hFc hP1 hD1
            generalize H1 = H at hP hS ⊢
            have hP : va_P D vwCl [((a 1), .inl (cI, 6792, .inl zI0)), ((a 2), .inl (cJ, 8, .inr (.inr (.inr (.inr fa))))), ((a 30), .inl (cI, 6792, .inl zI0)), ((a 0), .inr (12, zMo a (upd zI0 0 1)))] H := hP
            have hD : va_D A [((a 1), .inl (cI, 6792, .inl zI0)), ((a 2), .inl (cJ, 8, .inr (.inr (.inr (.inr fa))))), ((a 30), .inl (cI, 6792, .inl zI0)), ((a 0), .inr (12, zMo a (upd zI0 0 1)))] := hD
            refine lv_if_ne (tgt := 76) hx hb dX12_sign_50 (by decide) (fun c_108 => ?_) (fun c_108 => ?_)
            · skip
              refine lv_iconst (v := 0) hx hb dX12_sign_76 (by decide) ?_
              have hP9 := hP.sub (ws' := [((a 0), .inr (12, zMo a (upd zI0 0 1)))]) [3] rfl
              have hD9 := hD.sub (ws' := [((a 0), .inr (12, zMo a (upd zI0 0 1)))]) [3] (by decide) rfl
              have hK9 := hK.sub (tys' := []) [] rfl
              refine W.widen (k := 0) (n := 0) (Nat.le_of_ble_eq_true rfl) (Nat.le_of_ble_eq_true rfl) ?_
              exact W.iret (v := 0) hx hb hr (fun t ht0 hW => ⟨⟨0, upd zI0 0 1, rfl, (show zS_sign p0 p1 p2 1 0 from (.inl ⟨rfl, by omega⟩)), (zE_of hP9 hK9 hD9 ht0 hW)⟩, hS.F ht0⟩) hS.2.2 dX12_sign_77
            · skip
              exact absurd c_108 (by decide)
          · skip
            exact absurd c_106 (by decide)
  · skip
    simp only [Int32.reduceToInt] at h_1
    refine lv_if_eq (tgt := 41) hx hb dX12_sign_6 (by decide) (fun c_109 => ?_) (fun c_109 => ?_)
    · skip
      refine lv_iconst (v := 0) hx hb dX12_sign_41 (by decide) ?_
      refine lv_istore (lv' := [(4, .int 0), (0, .ref (a 0)), (1, .int p0), (2, .int p1), (3, .int p2)]) hx hb dX12_sign_42 hl (by decide) rfl (fun ls hl => ?_)
      refine lv_aload_n hx hb dX12_sign_44 rfl (lv_at hl 1 rfl) ?_
      refine lv_iload hx hb dX12_sign_45 (lv_at hl 0 rfl) ?_
      have hPc := hP.sub (ws' := [((a 0), .inr (12, zMo a zI0))]) [0] rfl
      have hDc := hD.sub (ws' := [((a 0), .inr (12, zMo a zI0))]) [0] (by decide) rfl
      have hKc := hK.sub (tys' := []) [] rfl
      have hFc := va_free (wc := [((a 0), .inr (12, zMo a zI0))]) hD hS hA [0] rfl
      refine va_calli (va_runV (As := [.int 0]) (rest := []) ⟨hx, hb, hml, hown, ht⟩ (k_X12_lacks l _ D a zI0 0 (by decide)) (cwV 1 ht (zG_V zw_62 zw_63 zw_64 zw_2 zw_65) rfl rfl rfl (by decide +kernel) ⟨Nat.le_of_ble_eq_true rfl, Nat.le_of_ble_eq_true rfl⟩) (zM_V (va_recv hK hP (ci := 12) (q0 := 0) rfl rfl) hPc hKc hDc) rfl rfl hl.1 rfl (lv_room (Nat.le_of_ble_eq_true rfl)) dX12_sign_47 ⟨Nat.le_of_ble_eq_true rfl, Nat.le_of_ble_eq_true rfl⟩) hS (fun q _ h => hFc q h) hFc (fun r_110 u_110 t H1 locs ht0 hvm hw_110 hB hz1 hk1 hS => ?_)
      obtain ⟨rfl, rfl⟩ := hw_110.1 rfl
      obtain ⟨hP1, hK1, hD1⟩ := hB
      rw [ht0] at hP1
      have hK1 := va_K.moved hvm.symm hK1
      obtain ⟨hP, hD⟩ := va_join (wr := [((a 1), .inl (cI, 6792, .inl zI0)), ((a 2), .inl (cJ, 8, .inr (.inr (.inr (.inr fa))))), ((a 30), .inl (cI, 6792, .inl zI0))]) (w1 := [((a 0), .inr (12, zMo a (upd zI0 0 1)))]) hP hD [0] [1, 2, 3] rfl rfl (by decide) (by decide) hk1 hFc hP1 hD1
      generalize H1 = H at hP hS ⊢
      have hP : va_P D vwCl [((a 1), .inl (cI, 6792, .inl zI0)), ((a 2), .inl (cJ, 8, .inr (.inr (.inr (.inr fa))))), ((a 30), .inl (cI, 6792, .inl zI0)), ((a 0), .inr (12, zMo a (upd zI0 0 1)))] H := hP
      have hD : va_D A [((a 1), .inl (cI, 6792, .inl zI0)), ((a 2), .inl (cJ, 8, .inr (.inr (.inr (.inr fa))))), ((a 30), .inl (cI, 6792, .inl zI0)), ((a 0), .inr (12, zMo a (upd zI0 0 1)))] := hD
      refine lv_if_ne (tgt := 76) hx hb dX12_sign_50 (by decide) (fun c_111 => ?_) (fun c_111 => ?_)
      · skip
        refine lv_iconst (v := 0) hx hb dX12_sign_76 (by decide) ?_
        have hP9 := hP.sub (ws' := [((a 0), .inr (12, zMo a (upd zI0 0 1)))]) [3] rfl
        have hD9 := hD.sub (ws' := [((a 0), .inr (12, zMo a (upd zI0 0 1)))]) [3] (by decide) rfl
        have hK9 := hK.sub (tys' := []) [] rfl
        refine W.widen (k := 0) (n := 0) (Nat.le_of_ble_eq_true rfl) (Nat.le_of_ble_eq_true rfl) ?_
        exact W.iret (v := 0) hx hb hr (fun t ht0 hW => ⟨⟨0, upd zI0 0 1, rfl, (show zS_sign p0 p1 p2 1 0 from (.inl ⟨rfl, by omega⟩)), (zE_of hP9 hK9 hD9 ht0 hW)⟩, hS.F ht0⟩) hS.2.2 dX12_sign_77
      · skip
        exact absurd c_111 (by decide)
    · skip
      exact absurd c_109 (by decide)
set_option maxHeartbeats 4000000 in
set_option maxRecDepth 100000 in
theorem k_X12_turn (l : Launch) (sz : Nat) (D : va_G) (a : Nat → Nat) (cI : ClassId) (p0 : Int32) (cJ : ClassId) (fa : Nat → Option Nat) (ha : fa 0 = some (a 30)) : Met l yX12_turn (.code yX12_turn cX12_turn 6 (some .int) :: zT) ({ frames := 2, cells := 2, slots := 24, locals := 86 }) (va_Pc [.ref (a 0), .int p0] (zX (va_AOA .int) D [((a 0), .inr (12, zMo a zI0)), ((a 1), .inl (cI, 6792, .inl zI0)), ((a 2), .inl (cJ, 8, .inr (.inr (.inr (.inr fa))))), ((a 30), .inl (cI, 6792, .inl zI0))] [(cI, .int), (cJ, .array .int)] sz)) (va_Qi (fun (r : Int32) (u : Nat → Int32) => zS_turn p0 (u 0) r) (fun u t => zE D [(a 0, .inr (12, zMo a u))] [] (va_A [((a 0), .inr (12, zMo a zI0)), ((a 1), .inl (cI, 6792, .inl zI0)), ((a 2), .inl (cJ, 8, .inr (.inr (.inr (.inr fa))))), ((a 30), .inl (cI, 6792, .inl zI0))] sz) t) (va_A [((a 0), .inr (12, zMo a zI0)), ((a 1), .inl (cI, 6792, .inl zI0)), ((a 2), .inl (cJ, 8, .inr (.inr (.inr (.inr fa))))), ((a 30), .inl (cI, 6792, .inl zI0))] sz)) 2 24 (va_A [((a 0), .inr (12, zMo a zI0)), ((a 1), .inl (cI, 6792, .inl zI0)), ((a 2), .inl (cJ, 8, .inr (.inr (.inr (.inr fa))))), ((a 30), .inl (cI, 6792, .inl zI0))] sz) := by
  refine Met.ofW (cc := cX12_turn) (maxL := 6) (ret := (some .int)) (by decide) rfl ?_
  intro p e s m args below meth c s₁ B hml hv
  obtain ⟨rfl, hX, hsz, hP, hK, hD0⟩ := hv
  have hx := B.exec
  have hb := B.bytes
  have hr := B.returns
  have hts := atoms_spec (ws := (.code yX12_turn cX12_turn 6 (some .int) :: zT)) B.pre
  have ht : ∀ w ∈ zT, w.before _ s = true := fun w h => hts w (List.mem_cons_of_mem _ h)
  have hown : s.vm.findClass RX12 = some m.cls := findClass_of_methodNamed B.named
  have hlocks := B.notSynchronized
  subst hsz
  have hD := hD0.self (sz := s.heap.size)
  generalize hAe : va_A [((a 0), .inr (12, zMo a zI0)), ((a 1), .inl (cI, 6792, .inl zI0)), ((a 2), .inl (cJ, 8, .inr (.inr (.inr (.inr fa))))), ((a 30), .inl (cI, 6792, .inl zI0))] s.heap.size = A at hD ⊢
  have hA : ∀ q : Nat, s.heap.size ≤ q → A q := fun q h => by rw [← hAe]; exact Or.inr h
  have hS : va_S A s.heap s.heap [] := va_S.rf
  have hP : va_P D vwCl [((a 0), .inr (12, zMo a zI0)), ((a 1), .inl (cI, 6792, .inl zI0)), ((a 2), .inl (cJ, 8, .inr (.inr (.inr (.inr fa))))), ((a 30), .inl (cI, 6792, .inl zI0))] s.heap := hP
  have hl := lv_entry ([.ref (a 0), .int p0]) (n := 6) (Nat.le_of_ble_eq_true rfl)
  rw [lg_entry_eq]
  generalize (lg_sl ([.ref (a 0), .int p0]) ++ List.replicate (6 - (lg_sl ([.ref (a 0), .int p0])).length) Slot.unset).toArray = ls at hl ⊢
  have hl : lv_has ls 6 [(0, .ref (a 0)), (1, .int p0)] := hl
  skip
  refine lv_aload_n hx hb dX12_turn_0 rfl (lv_at hl 0 rfl) ?_
  refine lv_iload_n hx hb dX12_turn_1 rfl (lv_at hl 1 rfl) ?_
  refine vp_callSi (va_runS (As := [.int p0]) (rest := [.ref (a 0)]) ⟨hx, hb, hml, hown, ht⟩ (k_X12_isChain l p0) (va_cwS 1 ht (zG_S zw_77 zw_78 zw_2 zw_79) rfl rfl rfl (by decide +kernel) ⟨Nat.le_of_ble_eq_true rfl, Nat.le_of_ble_eq_true rfl⟩) zN_S rfl rfl hl.1 rfl (lv_room (Nat.le_of_ble_eq_true rfl)) dX12_turn_2 ⟨Nat.le_of_ble_eq_true rfl, Nat.le_of_ble_eq_true rfl⟩).run (fun r_1 hw_1 => ?_)
  rcases hw_1 with ⟨rfl, h_1⟩ | ⟨rfl, h_1⟩
  · skip
    have hPc := hP.sub (ws' := [((a 0), .inr (12, zMo a zI0))]) [0] rfl
    have hDc := hD.sub (ws' := [((a 0), .inr (12, zMo a zI0))]) [0] (by decide) rfl
    have hKc := hK.sub (tys' := []) [] rfl
    have hFc := va_free (wc := [((a 0), .inr (12, zMo a zI0))]) hD hS hA [0] rfl
    refine va_calli (va_runV (As := [.int 1]) (rest := []) ⟨hx, hb, hml, hown, ht⟩ (k_X12_lacks l _ D a zI0 1 (by decide)) (cwV 1 ht (zG_V zw_62 zw_63 zw_64 zw_2 zw_65) rfl rfl rfl (by decide +kernel) ⟨Nat.le_of_ble_eq_true rfl, Nat.le_of_ble_eq_true rfl⟩) (zM_V (va_recv hK hP (ci := 12) (q0 := 0) rfl rfl) hPc hKc hDc) rfl rfl hl.1 rfl (lv_room (Nat.le_of_ble_eq_true rfl)) dX12_turn_5 ⟨Nat.le_of_ble_eq_true rfl, Nat.le_of_ble_eq_true rfl⟩) hS (fun q _ h => hFc q h) hFc (fun r_2 u_2 t H1 locs ht0 hvm hw_2 hB hz1 hk1 hS => ?_)
    obtain ⟨rfl, rfl⟩ := hw_2.2 (by decide)
    obtain ⟨hP1, hK1, hD1⟩ := hB
    rw [ht0] at hP1
    have hK1 := va_K.moved hvm.symm hK1
    obtain ⟨hP, hD⟩ := va_join (wr := [((a 1), .inl (cI, 6792, .inl zI0)), ((a 2), .inl (cJ, 8, .inr (.inr (.inr (.inr fa))))), ((a 30), .inl (cI, 6792, .inl zI0))]) (w1 := [((a 0), .inr (12, zMo a (upd zI0 0 0)))]) hP hD [0] [1, 2, 3] rfl rfl (by decide) (by decide) hk1 hFc hP1 hD1
    generalize H1 = H at hP hS ⊢
    have hP : va_P D vwCl [((a 1), .inl (cI, 6792, .inl zI0)), ((a 2), .inl (cJ, 8, .inr (.inr (.inr (.inr fa))))), ((a 30), .inl (cI, 6792, .inl zI0)), ((a 0), .inr (12, zMo a (upd zI0 0 0)))] H := hP
    have hD : va_D A [((a 1), .inl (cI, 6792, .inl zI0)), ((a 2), .inl (cJ, 8, .inr (.inr (.inr (.inr fa))))), ((a 30), .inl (cI, 6792, .inl zI0)), ((a 0), .inr (12, zMo a (upd zI0 0 0)))] := hD
    refine lv_if_eq (tgt := 13) hx hb dX12_turn_8 (by decide) (fun c_3 => ?_) (fun c_3 => ?_)
    · skip
      refine lv_aload_n hx hb dX12_turn_13 rfl (lv_at hl 0 rfl) ?_
      have hPc := hP.sub (ws' := [((a 0), .inr (12, zMo a (upd zI0 0 0))), ((a 1), .inl (cI, 6792, .inl zI0)), ((a 2), .inl (cJ, 8, .inr (.inr (.inr (.inr fa))))), ((a 30), .inl (cI, 6792, .inl zI0))]) [3, 0, 1, 2] rfl
      have hDc := hD.sub (ws' := [((a 0), .inr (12, zMo a (upd zI0 0 0))), ((a 1), .inl (cI, 6792, .inl zI0)), ((a 2), .inl (cJ, 8, .inr (.inr (.inr (.inr fa))))), ((a 30), .inl (cI, 6792, .inl zI0))]) [3, 0, 1, 2] (by decide) rfl
      have hKc := hK.sub (tys' := [(cI, .int), (cJ, .array .int)]) [0, 1] rfl
      have hFc := va_free (wc := [((a 0), .inr (12, zMo a (upd zI0 0 0))), ((a 1), .inl (cI, 6792, .inl zI0)), ((a 2), .inl (cJ, 8, .inr (.inr (.inr (.inr fa))))), ((a 30), .inl (cI, 6792, .inl zI0))]) hD hS hA [3, 0, 1, 2] rfl
      refine va_callv (va_runV (As := []) (rest := []) ⟨hx, hb, hml, hown, ht⟩ (k_X12_keeps l _ D a (upd zI0 0 0) cI cJ zI0 zI0 fa rfl ha) (cwV 0 ht (zG_V zw_104 zw_105 zw_106 zw_2 zw_107) rfl rfl rfl (by decide +kernel) ⟨Nat.le_of_ble_eq_true rfl, Nat.le_of_ble_eq_true rfl⟩) (zM_V (va_recv hK hP (ci := 12) (q0 := 3) rfl rfl) hPc hKc hDc) rfl rfl hl.1 rfl (lv_room (Nat.le_of_ble_eq_true rfl)) dX12_turn_14 ⟨Nat.le_of_ble_eq_true rfl, Nat.le_of_ble_eq_true rfl⟩) hS (fun q _ h => hFc q h) hFc (fun u_4 t H1 locs ht0 hvm hw_4 hB hz1 hk1 hS => ?_)
      obtain rfl := hw_4
      obtain ⟨hP1, hK1, hD1⟩ := hB
      rw [ht0] at hP1
      have hK1 := va_K.moved hvm.symm hK1
      obtain ⟨hP, hD⟩ := va_join (wr := []) (w1 := [((a 0), .inr (12, zMo a (upd (upd zI0 0 0) 5 1))), ((a 1), .inl (cI, 6792, .inl zI0))]) hP hD [3, 0, 1, 2] [] rfl rfl (by decide) (by decide) hk1 hFc hP1 hD1
      generalize H1 = H at hP hS ⊢
      have hP : va_P D vwCl [((a 0), .inr (12, zMo a (upd (upd zI0 0 0) 5 1))), ((a 1), .inl (cI, 6792, .inl zI0))] H := hP
      have hD : va_D A [((a 0), .inr (12, zMo a (upd (upd zI0 0 0) 5 1))), ((a 1), .inl (cI, 6792, .inl zI0))] := hD
      refine lv_aload_n hx hb dX12_turn_17 rfl (lv_at hl 0 rfl) ?_
      refine lv_iload_n hx hb dX12_turn_18 rfl (lv_at hl 1 rfl) ?_
      refine vp_callSi (va_runV (As := [.int p0]) (rest := []) ⟨hx, hb, hml, hown, ht⟩ (k_X12_linesOf l D a (upd (upd zI0 0 0) 5 1) cI p0 h_1) (cwV 1 ht (zG_V zw_47 zw_48 zw_49 zw_2 zw_50) rfl rfl rfl (by decide +kernel) ⟨Nat.le_of_ble_eq_true rfl, Nat.le_of_ble_eq_true rfl⟩) (zR_V (va_recv hK hP (ci := 12) (q0 := 0) rfl rfl) hP (hK.sub (tys' := [(cI, .int)]) [0] rfl)) rfl rfl hl.1 rfl (lv_room (Nat.le_of_ble_eq_true rfl)) dX12_turn_19 ⟨Nat.le_of_ble_eq_true rfl, Nat.le_of_ble_eq_true rfl⟩).run (fun r_5 hw_5 => ?_)
      obtain rfl : r_5 = 0 := hw_5
      refine lv_istore_n (lv' := [(2, .int 0), (0, .ref (a 0)), (1, .int p0)]) hx hb dX12_turn_22 rfl hl (by decide) rfl (fun ls hl => ?_)
      refine lv_bipush (v := 12) hx hb dX12_turn_23 (by decide) ?_
      refine va_newa (atype := .int) (a0 := (12, .inl (fun _ => 0))) hx hb (ht _ zw_108) rfl hK hP hD hS hA (fun _ => rfl) (by decide) rfl (Nat.le_of_ble_eq_true rfl) (Nat.le_of_ble_eq_true rfl) (Nat.le_of_ble_eq_true rfl) dX12_turn_25 (fun q_6 cA_6 H hK hP hD hS => ?_)
      have hP : va_P D vwCl [((a 0), .inr (12, zMo a (upd (upd zI0 0 0) 5 1))), ((a 1), .inl (cI, 6792, .inl zI0)), (q_6, .inl (cA_6, 12, .inl (fun _ => 0)))] H := hP
      have hD : va_D A [((a 0), .inr (12, zMo a (upd (upd zI0 0 0) 5 1))), ((a 1), .inl (cI, 6792, .inl zI0)), (q_6, .inl (cA_6, 12, .inl (fun _ => 0)))] := hD
      have hK : va_K D vwCl [(cI, .int), (cJ, .array .int), (cA_6, .int)] s := hK
      refine W.widen (k := 1) (n := 12) (Nat.le_of_ble_eq_true rfl) (Nat.le_of_ble_eq_true rfl) ?_
      refine lv_astore_n (lv' := [(3, .ref q_6), (2, .int 0), (0, .ref (a 0)), (1, .int p0)]) hx hb dX12_turn_27 rfl hl (by decide) rfl (fun ls hl => ?_)
      refine lv_bipush (v := 12) hx hb dX12_turn_28 (by decide) ?_
      refine za_anewA (t := .int) hx hb hown (ht _ zw_109) hX hP hS (by decide) rfl (Nat.le_of_ble_eq_true rfl) (Nat.le_of_ble_eq_true rfl) (Nat.le_of_ble_eq_true rfl) dX12_turn_30 (fun q_7 H hP hS => ?_)
      have hP : va_P D vwCl [((a 0), .inr (12, zMo a (upd (upd zI0 0 0) 5 1))), ((a 1), .inl (cI, 6792, .inl zI0)), (q_6, .inl (cA_6, 12, .inl (fun _ => 0)))] H := hP
      have hD : va_D A [((a 0), .inr (12, zMo a (upd (upd zI0 0 0) 5 1))), ((a 1), .inl (cI, 6792, .inl zI0)), (q_6, .inl (cA_6, 12, .inl (fun _ => 0)))] := hD
      refine W.widen (k := 2) (n := 24) (Nat.le_of_ble_eq_true rfl) (Nat.le_of_ble_eq_true rfl) ?_
      refine lv_astore (lv' := [(4, .ref q_7), (3, .ref q_6), (2, .int 0), (0, .ref (a 0)), (1, .int p0)]) hx hb dX12_turn_33 hl (by decide) rfl (fun ls hl => ?_)
      refine lv_iconst (v := 0) hx hb dX12_turn_35 (by decide) ?_
      refine lv_istore (lv' := [(5, .int 0), (4, .ref q_7), (3, .ref q_6), (2, .int 0), (0, .ref (a 0)), (1, .int p0)]) hx hb dX12_turn_36 hl (by decide) rfl (fun ls hl => ?_)
      refine lv_iload hx hb dX12_turn_38 (lv_at hl 0 rfl) ?_
      refine lv_iload_n hx hb dX12_turn_40 rfl (lv_at hl 3 rfl) ?_
      refine lv_icmp_ge (tgt := 88) hx hb dX12_turn_41 (by decide) (fun c_8 => ?_) (fun c_8 => ?_)
      · skip
        refine lv_aload_n hx hb dX12_turn_88 rfl (lv_at hl 4 rfl) ?_
        refine va_get (D := D) (ci := 12) (v := .ref (a 1)) (C := RX12) (T := TX12) (N := 25) hx hb ht zinX12 hown hK hP 0 rfl rfl 1 (by decide) (ht _ zw_34) (fun _ h9 => h9) rfl dX12_turn_89 ?_
        refine lv_aload_n hx hb dX12_turn_92 rfl (lv_at hl 4 rfl) ?_
        refine lv_iload_n hx hb dX12_turn_93 rfl (lv_at hl 5 rfl) ?_
        refine vp_callSi (va_runV (As := [.int p0]) (rest := [.ref (a 1)]) ⟨hx, hb, hml, hown, ht⟩ (k_X12_atChain l (a 0) p0) (cwV 1 ht (zG_V zw_43 zw_44 zw_45 zw_2 zw_46) rfl rfl rfl (by decide +kernel) ⟨Nat.le_of_ble_eq_true rfl, Nat.le_of_ble_eq_true rfl⟩) (zN_V (va_recv hK hP (ci := 12) (q0 := 0) rfl rfl)) rfl rfl hl.1 rfl (lv_room (Nat.le_of_ble_eq_true rfl)) dX12_turn_94 ⟨Nat.le_of_ble_eq_true rfl, Nat.le_of_ble_eq_true rfl⟩).run (fun r_9 hw_9 => ?_)
        have hi_9 : vp_in r_9 6792 := by rw [hw_9]; exact zch_in h_1.1 h_1.2
        refine lv_iconst (v := 0) hx hb dX12_turn_97 (by decide) ?_
        refine va_iast hx hb hK hP hD hS 1 0 rfl rfl hi_9 dX12_turn_98 (fun H locs hP hD hS => ?_)
        have hP : va_P D vwCl [((a 0), .inr (12, zMo a (upd (upd zI0 0 0) 5 1))), ((a 1), .inl (cI, 6792, .inl (upd zI0 r_9.toNatClampNeg 0))), (q_6, .inl (cA_6, 12, .inl (fun _ => 0)))] H := hP
        have hD : va_D A [((a 0), .inr (12, zMo a (upd (upd zI0 0 0) 5 1))), ((a 1), .inl (cI, 6792, .inl (upd zI0 r_9.toNatClampNeg 0))), (q_6, .inl (cA_6, 12, .inl (fun _ => 0)))] := hD
        refine lv_iconst (v := 0) hx hb dX12_turn_99 (by decide) ?_
        refine lv_istore (lv' := [(5, .int 0), (4, .ref q_7), (3, .ref q_6), (2, .int 0), (0, .ref (a 0)), (1, .int p0)]) hx hb dX12_turn_100 hl (by decide) rfl (fun ls hl => ?_)
        refine lv_iload hx hb dX12_turn_102 (lv_at hl 0 rfl) ?_
        refine lv_iload_n hx hb dX12_turn_104 rfl (lv_at hl 3 rfl) ?_
        refine lv_icmp_ge (tgt := 128) hx hb dX12_turn_105 (by decide) (fun c_10 => ?_) (fun c_10 => ?_)
        · skip
          refine lv_iload_n hx hb dX12_turn_128 rfl (lv_at hl 3 rfl) ?_
          have hP9 := hP.sub (ws' := [((a 0), .inr (12, zMo a (upd (upd zI0 0 0) 5 1)))]) [0] rfl
          have hD9 := hD.sub (ws' := [((a 0), .inr (12, zMo a (upd (upd zI0 0 0) 5 1)))]) [0] (by decide) rfl
          have hK9 := hK.sub (tys' := []) [] rfl
          refine W.widen (k := 2) (n := 24) (Nat.le_of_ble_eq_true rfl) (Nat.le_of_ble_eq_true rfl) ?_
          exact W.iret (v := 0) hx hb hr (fun t ht0 hW => ⟨⟨0, upd (upd zI0 0 0) 5 1, rfl, (show zS_turn p0 0 0 from (.inr ⟨rfl, by omega, rfl⟩)), (zE_of hP9 hK9 hD9 ht0 hW)⟩, hS.F ht0⟩) hS.2.2 dX12_turn_129
        · skip
          exact absurd c_10 (by decide)
      · skip
        exact absurd c_8 (by decide)
    · skip
      exact absurd c_3 (by decide)
  · skip
    have hPc := hP.sub (ws' := [((a 0), .inr (12, zMo a zI0))]) [0] rfl
    have hDc := hD.sub (ws' := [((a 0), .inr (12, zMo a zI0))]) [0] (by decide) rfl
    have hKc := hK.sub (tys' := []) [] rfl
    have hFc := va_free (wc := [((a 0), .inr (12, zMo a zI0))]) hD hS hA [0] rfl
    refine va_calli (va_runV (As := [.int 0]) (rest := []) ⟨hx, hb, hml, hown, ht⟩ (k_X12_lacks l _ D a zI0 0 (by decide)) (cwV 1 ht (zG_V zw_62 zw_63 zw_64 zw_2 zw_65) rfl rfl rfl (by decide +kernel) ⟨Nat.le_of_ble_eq_true rfl, Nat.le_of_ble_eq_true rfl⟩) (zM_V (va_recv hK hP (ci := 12) (q0 := 0) rfl rfl) hPc hKc hDc) rfl rfl hl.1 rfl (lv_room (Nat.le_of_ble_eq_true rfl)) dX12_turn_5 ⟨Nat.le_of_ble_eq_true rfl, Nat.le_of_ble_eq_true rfl⟩) hS (fun q _ h => hFc q h) hFc (fun r_11 u_11 t H1 locs ht0 hvm hw_11 hB hz1 hk1 hS => ?_)
    obtain ⟨rfl, rfl⟩ := hw_11.1 rfl
    obtain ⟨hP1, hK1, hD1⟩ := hB
    rw [ht0] at hP1
    have hK1 := va_K.moved hvm.symm hK1
    obtain ⟨hP, hD⟩ := va_join (wr := [((a 1), .inl (cI, 6792, .inl zI0)), ((a 2), .inl (cJ, 8, .inr (.inr (.inr (.inr fa))))), ((a 30), .inl (cI, 6792, .inl zI0))]) (w1 := [((a 0), .inr (12, zMo a (upd zI0 0 1)))]) hP hD [0] [1, 2, 3] rfl rfl (by decide) (by decide) hk1 hFc hP1 hD1
    generalize H1 = H at hP hS ⊢
    have hP : va_P D vwCl [((a 1), .inl (cI, 6792, .inl zI0)), ((a 2), .inl (cJ, 8, .inr (.inr (.inr (.inr fa))))), ((a 30), .inl (cI, 6792, .inl zI0)), ((a 0), .inr (12, zMo a (upd zI0 0 1)))] H := hP
    have hD : va_D A [((a 1), .inl (cI, 6792, .inl zI0)), ((a 2), .inl (cJ, 8, .inr (.inr (.inr (.inr fa))))), ((a 30), .inl (cI, 6792, .inl zI0)), ((a 0), .inr (12, zMo a (upd zI0 0 1)))] := hD
    refine lv_if_eq (tgt := 13) hx hb dX12_turn_8 (by decide) (fun c_12 => ?_) (fun c_12 => ?_)
    · skip
      exact absurd c_12 (by decide)
    · skip
      refine lv_iconst (v := 0) hx hb dX12_turn_11 (by decide) ?_
      have hP9 := hP.sub (ws' := [((a 0), .inr (12, zMo a (upd zI0 0 1)))]) [3] rfl
      have hD9 := hD.sub (ws' := [((a 0), .inr (12, zMo a (upd zI0 0 1)))]) [3] (by decide) rfl
      have hK9 := hK.sub (tys' := []) [] rfl
      refine W.widen (k := 2) (n := 24) (Nat.le_of_ble_eq_true rfl) (Nat.le_of_ble_eq_true rfl) ?_
      exact W.iret (v := 0) hx hb hr (fun t ht0 hW => ⟨⟨0, upd zI0 0 1, rfl, (show zS_turn p0 1 0 from (.inl ⟨rfl, by omega⟩)), (zE_of hP9 hK9 hD9 ht0 hW)⟩, hS.F ht0⟩) hS.2.2 dX12_turn_12
