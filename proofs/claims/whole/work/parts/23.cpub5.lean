abbrev cX10_add : ByteArray := prog_12_method_2_code
def yX10_add : MethodName := ⟨RX10, "add", "(I)V"⟩
theorem dX10_add_0 : decode cX10_add 0 = .ok (.aload_n 0, 1) := by decide +kernel
theorem dX10_add_1 : decode cX10_add 1 = .ok (.getfield 9, 3) := by decide +kernel
theorem dX10_add_4 : decode cX10_add 4 = .ok (.aload_n 0, 1) := by decide +kernel
theorem dX10_add_5 : decode cX10_add 5 = .ok (.getfield 31, 3) := by decide +kernel
theorem dX10_add_8 : decode cX10_add 8 = .ok (.arraylength, 1) := by decide +kernel
theorem dX10_add_9 : decode cX10_add 9 = .ok (.if_icmp .ge 23, 3) := by decide +kernel
theorem dX10_add_12 : decode cX10_add 12 = .ok (.aload_n 0, 1) := by decide +kernel
theorem dX10_add_13 : decode cX10_add 13 = .ok (.getfield 31, 3) := by decide +kernel
theorem dX10_add_16 : decode cX10_add 16 = .ok (.aload_n 0, 1) := by decide +kernel
theorem dX10_add_17 : decode cX10_add 17 = .ok (.getfield 9, 3) := by decide +kernel
theorem dX10_add_20 : decode cX10_add 20 = .ok (.iload_n 1, 1) := by decide +kernel
theorem dX10_add_21 : decode cX10_add 21 = .ok (.iastore, 1) := by decide +kernel
theorem dX10_add_22 : decode cX10_add 22 = .ok (.aload_n 0, 1) := by decide +kernel
theorem dX10_add_23 : decode cX10_add 23 = .ok (.dup, 1) := by decide +kernel
theorem dX10_add_24 : decode cX10_add 24 = .ok (.getfield 9, 3) := by decide +kernel
theorem dX10_add_27 : decode cX10_add 27 = .ok (.iconst 1, 1) := by decide +kernel
theorem dX10_add_28 : decode cX10_add 28 = .ok (.iadd, 1) := by decide +kernel
theorem dX10_add_29 : decode cX10_add 29 = .ok (.putfield 9, 3) := by decide +kernel
theorem dX10_add_32 : decode cX10_add 32 = .ok (.return_, 1) := by decide +kernel
abbrev cX11_type : ByteArray := prog_1_method_27_code
def yX11_type : MethodName := ⟨RX11, "type", "(J)I"⟩
theorem dX11_type_0 : decode cX11_type 0 = .ok (.iconst 0, 1) := by decide +kernel
theorem dX11_type_1 : decode cX11_type 1 = .ok (.istore_n 3, 1) := by decide +kernel
theorem dX11_type_2 : decode cX11_type 2 = .ok (.bipush 56, 2) := by decide +kernel
theorem dX11_type_4 : decode cX11_type 4 = .ok (.istore 4, 2) := by decide +kernel
theorem dX11_type_6 : decode cX11_type 6 = .ok (.iload 4, 2) := by decide +kernel
theorem dX11_type_8 : decode cX11_type 8 = .ok (.ifCond .lt 30, 3) := by decide +kernel
theorem dX11_type_30 : decode cX11_type 30 = .ok (.iadd, 1) := by decide +kernel
theorem dX11_type_31 : decode cX11_type 31 = .ok (.istore_n 3, 1) := by decide +kernel
theorem dX11_type_32 : decode cX11_type 32 = .ok (.iinc 4 (-8), 3) := by decide +kernel
theorem dX11_type_35 : decode cX11_type 35 = .ok (.goto (-29), 3) := by decide +kernel
theorem dX11_type_38 : decode cX11_type 38 = .ok (.aload_n 0, 1) := by decide +kernel
theorem dX11_type_39 : decode cX11_type 39 = .ok (.getfield 42, 3) := by decide +kernel
theorem dX11_type_42 : decode cX11_type 42 = .ok (.getfield 400, 3) := by decide +kernel
theorem dX11_type_45 : decode cX11_type 45 = .ok (.iload_n 3, 1) := by decide +kernel
theorem dX11_type_46 : decode cX11_type 46 = .ok (.iadd, 1) := by decide +kernel
theorem dX11_type_47 : decode cX11_type 47 = .ok (.sipush 200, 3) := by decide +kernel
theorem dX11_type_50 : decode cX11_type 50 = .ok (.if_icmp .le 14, 3) := by decide +kernel
theorem dX11_type_64 : decode cX11_type 64 = .ok (.bipush 56, 2) := by decide +kernel
theorem dX11_type_66 : decode cX11_type 66 = .ok (.istore 4, 2) := by decide +kernel
theorem dX11_type_68 : decode cX11_type 68 = .ok (.iload 4, 2) := by decide +kernel
theorem dX11_type_70 : decode cX11_type 70 = .ok (.ifCond .lt 34, 3) := by decide +kernel
theorem dX11_type_98 : decode cX11_type 98 = .ok (.iinc 4 (-8), 3) := by decide +kernel
theorem dX11_type_101 : decode cX11_type 101 = .ok (.goto (-33), 3) := by decide +kernel
theorem dX11_type_104 : decode cX11_type 104 = .ok (.aload_n 0, 1) := by decide +kernel
theorem dX11_type_105 : decode cX11_type 105 = .ok (.getfield 42, 3) := by decide +kernel
theorem dX11_type_108 : decode cX11_type 108 = .ok (.getfield 400, 3) := by decide +kernel
theorem dX11_type_111 : decode cX11_type 111 = .ok (.ireturn, 1) := by decide +kernel
theorem dX11_type_73 : decode cX11_type 73 = .ok (.lload_n 1, 1) := by decide +kernel
theorem dX11_type_74 : decode cX11_type 74 = .ok (.iload 4, 2) := by decide +kernel
theorem dX11_type_76 : decode cX11_type 76 = .ok (.lushr, 1) := by decide +kernel
theorem zw_544 : Cond.constantLong RX11 398 255 ∈ zT := zT_of 1328 (by decide +kernel) (by decide +kernel)
theorem dX11_type_77 : decode cX11_type 77 = .ok (.ldc2_w 398, 3) := by decide +kernel
theorem dX11_type_80 : decode cX11_type 80 = .ok (.land, 1) := by decide +kernel
theorem dX11_type_81 : decode cX11_type 81 = .ok (.l2i, 1) := by decide +kernel
theorem dX11_type_82 : decode cX11_type 82 = .ok (.istore 5, 2) := by decide +kernel
theorem dX11_type_84 : decode cX11_type 84 = .ok (.iload 5, 2) := by decide +kernel
theorem dX11_type_86 : decode cX11_type 86 = .ok (.ifCond .eq 12, 3) := by decide +kernel
theorem dX11_type_89 : decode cX11_type 89 = .ok (.aload_n 0, 1) := by decide +kernel
theorem dX11_type_90 : decode cX11_type 90 = .ok (.getfield 42, 3) := by decide +kernel
theorem dX11_type_93 : decode cX11_type 93 = .ok (.iload 5, 2) := by decide +kernel
theorem zw_545 : Cond.methodLink RX11 403 yX10_add ∈ zT := zT_of 1330 (by decide +kernel) (by decide +kernel)
theorem zw_546 : Cond.instanceMethod yX10_add ∈ zT := zT_of 1331 (by decide +kernel) (by decide +kernel)
theorem zw_547 : Cond.selects RX10 yX10_add yX10_add ∈ zT := zT_of 1332 (by decide +kernel) (by decide +kernel)
theorem zw_548 : Cond.code yX10_add cX10_add 2 none ∈ zT := zT_of 1333 (by decide +kernel) (by decide +kernel)
theorem dX11_type_95 : decode cX11_type 95 = .ok (.invokevirtual 403, 3) := by decide +kernel
theorem dX11_type_11 : decode cX11_type 11 = .ok (.iload_n 3, 1) := by decide +kernel
theorem dX11_type_12 : decode cX11_type 12 = .ok (.lload_n 1, 1) := by decide +kernel
theorem dX11_type_13 : decode cX11_type 13 = .ok (.iload 4, 2) := by decide +kernel
theorem dX11_type_15 : decode cX11_type 15 = .ok (.lushr, 1) := by decide +kernel
theorem dX11_type_16 : decode cX11_type 16 = .ok (.ldc2_w 398, 3) := by decide +kernel
theorem dX11_type_19 : decode cX11_type 19 = .ok (.land, 1) := by decide +kernel
theorem dX11_type_20 : decode cX11_type 20 = .ok (.lconst 0, 1) := by decide +kernel
theorem dX11_type_21 : decode cX11_type 21 = .ok (.lcmp, 1) := by decide +kernel
theorem dX11_type_22 : decode cX11_type 22 = .ok (.ifCond .eq 7, 3) := by decide +kernel
theorem dX11_type_29 : decode cX11_type 29 = .ok (.iconst 0, 1) := by decide +kernel
theorem dX11_type_25 : decode cX11_type 25 = .ok (.iconst 1, 1) := by decide +kernel
theorem dX11_type_26 : decode cX11_type 26 = .ok (.goto 4, 3) := by decide +kernel
abbrev cJ_bitCount : ByteArray := prog_20_method_49_code
def yJ_bitCount : MethodName := ⟨RJ6, "bitCount", "(I)I"⟩
theorem dJ_bitCount_0 : decode cJ_bitCount 0 = .ok (.iload_n 0, 1) := by decide +kernel
theorem dJ_bitCount_1 : decode cJ_bitCount 1 = .ok (.iload_n 0, 1) := by decide +kernel
theorem dJ_bitCount_2 : decode cJ_bitCount 2 = .ok (.iconst 1, 1) := by decide +kernel
theorem dJ_bitCount_3 : decode cJ_bitCount 3 = .ok (.iushr, 1) := by decide +kernel
theorem zw_549 : Cond.constant RJ6 265 1431655765 ∈ zT := zT_of 558 (by decide +kernel) (by decide +kernel)
theorem dJ_bitCount_4 : decode cJ_bitCount 4 = .ok (.ldc_w 265, 3) := by decide +kernel
theorem dJ_bitCount_7 : decode cJ_bitCount 7 = .ok (.iand, 1) := by decide +kernel
theorem dJ_bitCount_8 : decode cJ_bitCount 8 = .ok (.isub, 1) := by decide +kernel
theorem dJ_bitCount_9 : decode cJ_bitCount 9 = .ok (.istore_n 0, 1) := by decide +kernel
theorem dJ_bitCount_10 : decode cJ_bitCount 10 = .ok (.iload_n 0, 1) := by decide +kernel
theorem zw_550 : Cond.constant RJ6 266 858993459 ∈ zT := zT_of 559 (by decide +kernel) (by decide +kernel)
theorem dJ_bitCount_11 : decode cJ_bitCount 11 = .ok (.ldc_w 266, 3) := by decide +kernel
theorem dJ_bitCount_14 : decode cJ_bitCount 14 = .ok (.iand, 1) := by decide +kernel
theorem dJ_bitCount_15 : decode cJ_bitCount 15 = .ok (.iload_n 0, 1) := by decide +kernel
theorem dJ_bitCount_16 : decode cJ_bitCount 16 = .ok (.iconst 2, 1) := by decide +kernel
theorem dJ_bitCount_17 : decode cJ_bitCount 17 = .ok (.iushr, 1) := by decide +kernel
theorem dJ_bitCount_18 : decode cJ_bitCount 18 = .ok (.ldc_w 266, 3) := by decide +kernel
theorem dJ_bitCount_21 : decode cJ_bitCount 21 = .ok (.iand, 1) := by decide +kernel
theorem dJ_bitCount_22 : decode cJ_bitCount 22 = .ok (.iadd, 1) := by decide +kernel
theorem dJ_bitCount_23 : decode cJ_bitCount 23 = .ok (.istore_n 0, 1) := by decide +kernel
theorem dJ_bitCount_24 : decode cJ_bitCount 24 = .ok (.iload_n 0, 1) := by decide +kernel
theorem dJ_bitCount_25 : decode cJ_bitCount 25 = .ok (.iload_n 0, 1) := by decide +kernel
theorem dJ_bitCount_26 : decode cJ_bitCount 26 = .ok (.iconst 4, 1) := by decide +kernel
theorem dJ_bitCount_27 : decode cJ_bitCount 27 = .ok (.iushr, 1) := by decide +kernel
theorem dJ_bitCount_28 : decode cJ_bitCount 28 = .ok (.iadd, 1) := by decide +kernel
theorem zw_551 : Cond.constant RJ6 267 252645135 ∈ zT := zT_of 560 (by decide +kernel) (by decide +kernel)
theorem dJ_bitCount_29 : decode cJ_bitCount 29 = .ok (.ldc_w 267, 3) := by decide +kernel
theorem dJ_bitCount_32 : decode cJ_bitCount 32 = .ok (.iand, 1) := by decide +kernel
theorem dJ_bitCount_33 : decode cJ_bitCount 33 = .ok (.istore_n 0, 1) := by decide +kernel
theorem dJ_bitCount_34 : decode cJ_bitCount 34 = .ok (.iload_n 0, 1) := by decide +kernel
theorem dJ_bitCount_35 : decode cJ_bitCount 35 = .ok (.iload_n 0, 1) := by decide +kernel
theorem dJ_bitCount_36 : decode cJ_bitCount 36 = .ok (.bipush 8, 2) := by decide +kernel
theorem dJ_bitCount_38 : decode cJ_bitCount 38 = .ok (.iushr, 1) := by decide +kernel
theorem dJ_bitCount_39 : decode cJ_bitCount 39 = .ok (.iadd, 1) := by decide +kernel
theorem dJ_bitCount_40 : decode cJ_bitCount 40 = .ok (.istore_n 0, 1) := by decide +kernel
theorem dJ_bitCount_41 : decode cJ_bitCount 41 = .ok (.iload_n 0, 1) := by decide +kernel
theorem dJ_bitCount_42 : decode cJ_bitCount 42 = .ok (.iload_n 0, 1) := by decide +kernel
theorem dJ_bitCount_43 : decode cJ_bitCount 43 = .ok (.bipush 16, 2) := by decide +kernel
theorem dJ_bitCount_45 : decode cJ_bitCount 45 = .ok (.iushr, 1) := by decide +kernel
theorem dJ_bitCount_46 : decode cJ_bitCount 46 = .ok (.iadd, 1) := by decide +kernel
theorem dJ_bitCount_47 : decode cJ_bitCount 47 = .ok (.istore_n 0, 1) := by decide +kernel
theorem dJ_bitCount_48 : decode cJ_bitCount 48 = .ok (.iload_n 0, 1) := by decide +kernel
theorem dJ_bitCount_49 : decode cJ_bitCount 49 = .ok (.bipush 63, 2) := by decide +kernel
theorem dJ_bitCount_51 : decode cJ_bitCount 51 = .ok (.iand, 1) := by decide +kernel
theorem dJ_bitCount_52 : decode cJ_bitCount 52 = .ok (.ireturn, 1) := by decide +kernel
abbrev cX5_wordsInUse : ByteArray := prog_7_method_6_code
def yX5_wordsInUse : MethodName := ⟨RX5, "wordsInUse", "()I"⟩
theorem dX5_wordsInUse_0 : decode cX5_wordsInUse 0 = .ok (.aload_n 0, 1) := by decide +kernel
theorem dX5_wordsInUse_1 : decode cX5_wordsInUse 1 = .ok (.getfield 31, 3) := by decide +kernel
theorem dX5_wordsInUse_4 : decode cX5_wordsInUse 4 = .ok (.bipush 31, 2) := by decide +kernel
theorem dX5_wordsInUse_6 : decode cX5_wordsInUse 6 = .ok (.iadd, 1) := by decide +kernel
theorem dX5_wordsInUse_7 : decode cX5_wordsInUse 7 = .ok (.iconst 5, 1) := by decide +kernel
theorem dX5_wordsInUse_8 : decode cX5_wordsInUse 8 = .ok (.ishr, 1) := by decide +kernel
theorem dX5_wordsInUse_9 : decode cX5_wordsInUse 9 = .ok (.sipush 2048, 3) := by decide +kernel
theorem zw_552 : Cond.methodLink RX5 108 Lib.Math.min.name ∈ zT := zT_of 480 (by decide +kernel) (by decide +kernel)
theorem dX5_wordsInUse_12 : decode cX5_wordsInUse 12 = .ok (.invokestatic 108, 3) := by decide +kernel
theorem dX5_wordsInUse_15 : decode cX5_wordsInUse 15 = .ok (.ireturn, 1) := by decide +kernel
abbrev cX5_clear : ByteArray := prog_7_method_7_code
def yX5_clear : MethodName := ⟨RX5, "clear", "([I)V"⟩
theorem dX5_clear_0 : decode cX5_clear 0 = .ok (.aload_n 0, 1) := by decide +kernel
theorem zw_553 : Cond.methodLink RX5 86 yX5_wordsInUse ∈ zT := zT_of 476 (by decide +kernel) (by decide +kernel)
theorem zw_554 : Cond.instanceMethod yX5_wordsInUse ∈ zT := zT_of 478 (by decide +kernel) (by decide +kernel)
theorem zw_555 : Cond.selects RX5 yX5_wordsInUse yX5_wordsInUse ∈ zT := zT_ofS 4 (by decide +kernel) (by decide +kernel)
theorem zw_556 : Cond.code yX5_wordsInUse cX5_wordsInUse 1 (some .int) ∈ zT := zT_of 479 (by decide +kernel) (by decide +kernel)
theorem dX5_clear_1 : decode cX5_clear 1 = .ok (.invokevirtual 86, 3) := by decide +kernel
theorem dX5_clear_4 : decode cX5_clear 4 = .ok (.istore_n 2, 1) := by decide +kernel
theorem dX5_clear_5 : decode cX5_clear 5 = .ok (.iconst 0, 1) := by decide +kernel
theorem dX5_clear_6 : decode cX5_clear 6 = .ok (.istore_n 3, 1) := by decide +kernel
theorem dX5_clear_7 : decode cX5_clear 7 = .ok (.iload_n 3, 1) := by decide +kernel
theorem dX5_clear_8 : decode cX5_clear 8 = .ok (.iload_n 2, 1) := by decide +kernel
theorem dX5_clear_9 : decode cX5_clear 9 = .ok (.if_icmp .ge 13, 3) := by decide +kernel
theorem dX5_clear_22 : decode cX5_clear 22 = .ok (.return_, 1) := by decide +kernel
theorem dX5_clear_12 : decode cX5_clear 12 = .ok (.aload_n 1, 1) := by decide +kernel
theorem dX5_clear_13 : decode cX5_clear 13 = .ok (.iload_n 3, 1) := by decide +kernel
theorem dX5_clear_14 : decode cX5_clear 14 = .ok (.iconst 0, 1) := by decide +kernel
theorem dX5_clear_15 : decode cX5_clear 15 = .ok (.iastore, 1) := by decide +kernel
theorem dX5_clear_16 : decode cX5_clear 16 = .ok (.iinc 3 1, 3) := by decide +kernel
theorem dX5_clear_19 : decode cX5_clear 19 = .ok (.goto (-12), 3) := by decide +kernel
abbrev cX5_strikeTold : ByteArray := prog_7_method_12_code
def yX5_strikeTold : MethodName := ⟨RX5, "strikeTold", "(LChainwork$State;I)V"⟩
theorem dX5_strikeTold_0 : decode cX5_strikeTold 0 = .ok (.iconst 0, 1) := by decide +kernel
theorem dX5_strikeTold_1 : decode cX5_strikeTold 1 = .ok (.istore_n 3, 1) := by decide +kernel
theorem dX5_strikeTold_2 : decode cX5_strikeTold 2 = .ok (.iload_n 3, 1) := by decide +kernel
theorem dX5_strikeTold_3 : decode cX5_strikeTold 3 = .ok (.bipush 100, 2) := by decide +kernel
theorem dX5_strikeTold_5 : decode cX5_strikeTold 5 = .ok (.if_icmp .ge 53, 3) := by decide +kernel
theorem dX5_strikeTold_58 : decode cX5_strikeTold 58 = .ok (.iconst 0, 1) := by decide +kernel
theorem dX5_strikeTold_59 : decode cX5_strikeTold 59 = .ok (.istore_n 3, 1) := by decide +kernel
theorem dX5_strikeTold_60 : decode cX5_strikeTold 60 = .ok (.iload_n 3, 1) := by decide +kernel
theorem dX5_strikeTold_61 : decode cX5_strikeTold 61 = .ok (.aload_n 1, 1) := by decide +kernel
theorem zw_557 : Cond.fieldLink RX5 141 RX8 "equivalenceCount" "I" ∈ zT := zT_of 94 (by decide +kernel) (by decide +kernel)
theorem dX5_strikeTold_62 : decode cX5_strikeTold 62 = .ok (.getfield 141, 3) := by decide +kernel
theorem dX5_strikeTold_65 : decode cX5_strikeTold 65 = .ok (.if_icmp .ge 61, 3) := by decide +kernel
theorem dX5_strikeTold_126 : decode cX5_strikeTold 126 = .ok (.return_, 1) := by decide +kernel
theorem dX5_strikeTold_8 : decode cX5_strikeTold 8 = .ok (.aload_n 1, 1) := by decide +kernel
theorem zw_558 : Cond.fieldLink RX5 126 RX8 "laws" "[LChainwork$Law;" ∈ zT := zT_of 86 (by decide +kernel) (by decide +kernel)
theorem dX5_strikeTold_9 : decode cX5_strikeTold 9 = .ok (.getfield 126, 3) := by decide +kernel
theorem dX5_strikeTold_12 : decode cX5_strikeTold 12 = .ok (.iload_n 3, 1) := by decide +kernel
theorem dX5_strikeTold_13 : decode cX5_strikeTold 13 = .ok (.aaload, 1) := by decide +kernel
theorem dX5_strikeTold_14 : decode cX5_strikeTold 14 = .ok (.astore 4, 2) := by decide +kernel
theorem dX5_strikeTold_16 : decode cX5_strikeTold 16 = .ok (.aload 4, 2) := by decide +kernel
theorem dX5_strikeTold_18 : decode cX5_strikeTold 18 = .ok (.ifnull 34, 3) := by decide +kernel
theorem dX5_strikeTold_52 : decode cX5_strikeTold 52 = .ok (.iinc 3 1, 3) := by decide +kernel
theorem dX5_strikeTold_55 : decode cX5_strikeTold 55 = .ok (.goto (-53), 3) := by decide +kernel
abbrev cX5_renew : ByteArray := prog_7_method_2_code
def yX5_renew : MethodName := ⟨RX5, "renew", "(LChainwork$State;)V"⟩
theorem dX5_renew_0 : decode cX5_renew 0 = .ok (.aload_n 0, 1) := by decide +kernel
theorem dX5_renew_1 : decode cX5_renew 1 = .ok (.getfield 27, 3) := by decide +kernel
theorem dX5_renew_4 : decode cX5_renew 4 = .ok (.aload_n 1, 1) := by decide +kernel
theorem zw_559 : Cond.fieldLink RX5 44 RX8 "told" "I" ∈ zT := zT_of 106 (by decide +kernel) (by decide +kernel)
theorem dX5_renew_5 : decode cX5_renew 5 = .ok (.getfield 44, 3) := by decide +kernel
theorem dX5_renew_8 : decode cX5_renew 8 = .ok (.if_icmp .ne 4, 3) := by decide +kernel
theorem dX5_renew_12 : decode cX5_renew 12 = .ok (.aload_n 0, 1) := by decide +kernel
theorem dX5_renew_13 : decode cX5_renew 13 = .ok (.aload_n 1, 1) := by decide +kernel
theorem dX5_renew_14 : decode cX5_renew 14 = .ok (.getfield 44, 3) := by decide +kernel
theorem dX5_renew_17 : decode cX5_renew 17 = .ok (.putfield 27, 3) := by decide +kernel
theorem dX5_renew_20 : decode cX5_renew 20 = .ok (.aload_n 0, 1) := by decide +kernel
theorem zw_560 : Cond.constant RX5 49 65536 ∈ zT := zT_of 471 (by decide +kernel) (by decide +kernel)
theorem dX5_renew_21 : decode cX5_renew 21 = .ok (.ldc 49, 2) := by decide +kernel
theorem dX5_renew_23 : decode cX5_renew 23 = .ok (.putfield 31, 3) := by decide +kernel
theorem dX5_renew_26 : decode cX5_renew 26 = .ok (.aload_n 0, 1) := by decide +kernel
theorem dX5_renew_27 : decode cX5_renew 27 = .ok (.aload_n 0, 1) := by decide +kernel
theorem dX5_renew_28 : decode cX5_renew 28 = .ok (.getfield 11, 3) := by decide +kernel
theorem zw_561 : Cond.methodLink RX5 50 yX5_clear ∈ zT := zT_of 472 (by decide +kernel) (by decide +kernel)
theorem zw_562 : Cond.instanceMethod yX5_clear ∈ zT := zT_of 474 (by decide +kernel) (by decide +kernel)
theorem zw_563 : Cond.selects RX5 yX5_clear yX5_clear ∈ zT := zT_ofS 3 (by decide +kernel) (by decide +kernel)
theorem zw_564 : Cond.code yX5_clear cX5_clear 4 none ∈ zT := zT_of 475 (by decide +kernel) (by decide +kernel)
theorem dX5_renew_31 : decode cX5_renew 31 = .ok (.invokevirtual 50, 3) := by decide +kernel
theorem dX5_renew_34 : decode cX5_renew 34 = .ok (.aload_n 0, 1) := by decide +kernel
theorem dX5_renew_35 : decode cX5_renew 35 = .ok (.iconst 1, 1) := by decide +kernel
theorem dX5_renew_36 : decode cX5_renew 36 = .ok (.putfield 31, 3) := by decide +kernel
theorem dX5_renew_39 : decode cX5_renew 39 = .ok (.aload_n 0, 1) := by decide +kernel
theorem dX5_renew_40 : decode cX5_renew 40 = .ok (.getfield 11, 3) := by decide +kernel
theorem dX5_renew_43 : decode cX5_renew 43 = .ok (.iconst 0, 1) := by decide +kernel
theorem dX5_renew_44 : decode cX5_renew 44 = .ok (.iconst 1, 1) := by decide +kernel
theorem dX5_renew_45 : decode cX5_renew 45 = .ok (.iastore, 1) := by decide +kernel
theorem dX5_renew_46 : decode cX5_renew 46 = .ok (.aload_n 0, 1) := by decide +kernel
theorem dX5_renew_47 : decode cX5_renew 47 = .ok (.aload_n 1, 1) := by decide +kernel
theorem dX5_renew_48 : decode cX5_renew 48 = .ok (.iconst 0, 1) := by decide +kernel
theorem zw_565 : Cond.methodLink RX5 54 yX5_strikeTold ∈ zT := zT_of 483 (by decide +kernel) (by decide +kernel)
theorem zw_566 : Cond.instanceMethod yX5_strikeTold ∈ zT := zT_of 485 (by decide +kernel) (by decide +kernel)
theorem zw_567 : Cond.selects RX5 yX5_strikeTold yX5_strikeTold ∈ zT := zT_ofS 5 (by decide +kernel) (by decide +kernel)
theorem zw_568 : Cond.code yX5_strikeTold cX5_strikeTold 6 none ∈ zT := zT_of 486 (by decide +kernel) (by decide +kernel)
theorem dX5_renew_49 : decode cX5_renew 49 = .ok (.invokevirtual 54, 3) := by decide +kernel
theorem dX5_renew_52 : decode cX5_renew 52 = .ok (.iconst 0, 1) := by decide +kernel
theorem dX5_renew_53 : decode cX5_renew 53 = .ok (.istore_n 2, 1) := by decide +kernel
theorem dX5_renew_54 : decode cX5_renew 54 = .ok (.iload_n 2, 1) := by decide +kernel
theorem dX5_renew_55 : decode cX5_renew 55 = .ok (.aload_n 1, 1) := by decide +kernel
theorem zw_569 : Cond.fieldLink RX5 58 RX8 "signCount" "I" ∈ zT := zT_of 78 (by decide +kernel) (by decide +kernel)
theorem dX5_renew_56 : decode cX5_renew 56 = .ok (.getfield 58, 3) := by decide +kernel
theorem dX5_renew_59 : decode cX5_renew 59 = .ok (.if_icmp .ge 27, 3) := by decide +kernel
theorem dX5_renew_86 : decode cX5_renew 86 = .ok (.return_, 1) := by decide +kernel
abbrev cX5_countObeying : ByteArray := prog_7_method_4_code
def yX5_countObeying : MethodName := ⟨RX5, "countObeying", "()I"⟩
theorem dX5_countObeying_0 : decode cX5_countObeying 0 = .ok (.iconst 0, 1) := by decide +kernel
theorem dX5_countObeying_1 : decode cX5_countObeying 1 = .ok (.istore_n 1, 1) := by decide +kernel
theorem dX5_countObeying_2 : decode cX5_countObeying 2 = .ok (.iconst 0, 1) := by decide +kernel
theorem dX5_countObeying_3 : decode cX5_countObeying 3 = .ok (.istore_n 2, 1) := by decide +kernel
theorem dX5_countObeying_4 : decode cX5_countObeying 4 = .ok (.iload_n 2, 1) := by decide +kernel
theorem dX5_countObeying_5 : decode cX5_countObeying 5 = .ok (.aload_n 0, 1) := by decide +kernel
theorem dX5_countObeying_6 : decode cX5_countObeying 6 = .ok (.invokevirtual 86, 3) := by decide +kernel
theorem dX5_countObeying_9 : decode cX5_countObeying 9 = .ok (.if_icmp .ge 21, 3) := by decide +kernel
theorem dX5_countObeying_12 : decode cX5_countObeying 12 = .ok (.iload_n 1, 1) := by decide +kernel
theorem dX5_countObeying_13 : decode cX5_countObeying 13 = .ok (.aload_n 0, 1) := by decide +kernel
theorem dX5_countObeying_14 : decode cX5_countObeying 14 = .ok (.getfield 11, 3) := by decide +kernel
theorem dX5_countObeying_17 : decode cX5_countObeying 17 = .ok (.iload_n 2, 1) := by decide +kernel
theorem dX5_countObeying_18 : decode cX5_countObeying 18 = .ok (.iaload, 1) := by decide +kernel
theorem zw_570 : Cond.methodLink RX5 90 yJ_bitCount ∈ zT := zT_of 555 (by decide +kernel) (by decide +kernel)
theorem zw_571 : Cond.static yJ_bitCount ∈ zT := zT_of 556 (by decide +kernel) (by decide +kernel)
theorem zw_572 : Cond.initialized RJ6 ∈ zT := zT_of 23 (by decide +kernel) (by decide +kernel)
theorem zw_573 : Cond.code yJ_bitCount cJ_bitCount 1 (some .int) ∈ zT := zT_of 557 (by decide +kernel) (by decide +kernel)
theorem dX5_countObeying_19 : decode cX5_countObeying 19 = .ok (.invokestatic 90, 3) := by decide +kernel
theorem dX5_countObeying_22 : decode cX5_countObeying 22 = .ok (.iadd, 1) := by decide +kernel
theorem dX5_countObeying_23 : decode cX5_countObeying 23 = .ok (.istore_n 1, 1) := by decide +kernel
theorem dX5_countObeying_24 : decode cX5_countObeying 24 = .ok (.iinc 2 1, 3) := by decide +kernel
theorem dX5_countObeying_27 : decode cX5_countObeying 27 = .ok (.goto (-23), 3) := by decide +kernel
theorem dX5_countObeying_30 : decode cX5_countObeying 30 = .ok (.iload_n 1, 1) := by decide +kernel
theorem dX5_countObeying_31 : decode cX5_countObeying 31 = .ok (.ireturn, 1) := by decide +kernel
abbrev cX11_orders : ByteArray := prog_1_method_46_code
def yX11_orders : MethodName := ⟨RX11, "orders", "()I"⟩
theorem dX11_orders_0 : decode cX11_orders 0 = .ok (.aload_n 0, 1) := by decide +kernel
theorem dX11_orders_1 : decode cX11_orders 1 = .ok (.getfield 80, 3) := by decide +kernel
theorem dX11_orders_4 : decode cX11_orders 4 = .ok (.aload_n 0, 1) := by decide +kernel
theorem dX11_orders_5 : decode cX11_orders 5 = .ok (.getfield 10, 3) := by decide +kernel
theorem zw_574 : Cond.methodLink RX11 463 yX5_renew ∈ zT := zT_of 467 (by decide +kernel) (by decide +kernel)
theorem zw_575 : Cond.instanceMethod yX5_renew ∈ zT := zT_of 468 (by decide +kernel) (by decide +kernel)
theorem zw_576 : Cond.selects RX5 yX5_renew yX5_renew ∈ zT := zT_of 469 (by decide +kernel) (by decide +kernel)
theorem zw_577 : Cond.code yX5_renew cX5_renew 3 none ∈ zT := zT_of 470 (by decide +kernel) (by decide +kernel)
theorem dX11_orders_8 : decode cX11_orders 8 = .ok (.invokevirtual 463, 3) := by decide +kernel
theorem dX11_orders_11 : decode cX11_orders 11 = .ok (.aload_n 0, 1) := by decide +kernel
theorem dX11_orders_12 : decode cX11_orders 12 = .ok (.getfield 80, 3) := by decide +kernel
theorem zw_578 : Cond.methodLink RX11 466 yX5_countObeying ∈ zT := zT_of 551 (by decide +kernel) (by decide +kernel)
theorem zw_579 : Cond.instanceMethod yX5_countObeying ∈ zT := zT_of 552 (by decide +kernel) (by decide +kernel)
theorem zw_580 : Cond.selects RX5 yX5_countObeying yX5_countObeying ∈ zT := zT_of 553 (by decide +kernel) (by decide +kernel)
theorem zw_581 : Cond.code yX5_countObeying cX5_countObeying 3 (some .int) ∈ zT := zT_of 554 (by decide +kernel) (by decide +kernel)
theorem dX11_orders_15 : decode cX11_orders 15 = .ok (.invokevirtual 466, 3) := by decide +kernel
theorem dX11_orders_18 : decode cX11_orders 18 = .ok (.ireturn, 1) := by decide +kernel
abbrev cX5_limitToAssumptions : ByteArray := prog_7_method_3_code
def yX5_limitToAssumptions : MethodName := ⟨RX5, "limitToAssumptions", "(LChainwork$State;)V"⟩
theorem dX5_limitToAssumptions_0 : decode cX5_limitToAssumptions 0 = .ok (.aload_n 0, 1) := by decide +kernel
theorem dX5_limitToAssumptions_1 : decode cX5_limitToAssumptions 1 = .ok (.getfield 11, 3) := by decide +kernel
theorem dX5_limitToAssumptions_4 : decode cX5_limitToAssumptions 4 = .ok (.iconst 0, 1) := by decide +kernel
theorem dX5_limitToAssumptions_5 : decode cX5_limitToAssumptions 5 = .ok (.aload_n 0, 1) := by decide +kernel
theorem dX5_limitToAssumptions_6 : decode cX5_limitToAssumptions 6 = .ok (.getfield 15, 3) := by decide +kernel
theorem dX5_limitToAssumptions_9 : decode cX5_limitToAssumptions 9 = .ok (.iconst 0, 1) := by decide +kernel
theorem dX5_limitToAssumptions_10 : decode cX5_limitToAssumptions 10 = .ok (.sipush 2048, 3) := by decide +kernel
theorem zw_582 : Cond.methodLink RX5 69 arraycopyName ∈ zT := zT_of 597 (by decide +kernel) (by decide +kernel)
theorem dX5_limitToAssumptions_13 : decode cX5_limitToAssumptions 13 = .ok (.invokestatic 69, 3) := by decide +kernel
theorem dX5_limitToAssumptions_16 : decode cX5_limitToAssumptions 16 = .ok (.iconst 0, 1) := by decide +kernel
theorem dX5_limitToAssumptions_17 : decode cX5_limitToAssumptions 17 = .ok (.istore_n 2, 1) := by decide +kernel
theorem dX5_limitToAssumptions_18 : decode cX5_limitToAssumptions 18 = .ok (.iload_n 2, 1) := by decide +kernel
theorem dX5_limitToAssumptions_19 : decode cX5_limitToAssumptions 19 = .ok (.aload_n 1, 1) := by decide +kernel
theorem zw_583 : Cond.fieldLink RX5 75 RX8 "assumptionCount" "I" ∈ zT := zT_of 100 (by decide +kernel) (by decide +kernel)
theorem dX5_limitToAssumptions_20 : decode cX5_limitToAssumptions 20 = .ok (.getfield 75, 3) := by decide +kernel
theorem dX5_limitToAssumptions_23 : decode cX5_limitToAssumptions 23 = .ok (.if_icmp .ge 24, 3) := by decide +kernel
theorem dX5_limitToAssumptions_47 : decode cX5_limitToAssumptions 47 = .ok (.return_, 1) := by decide +kernel
abbrev cX11_errors : ByteArray := prog_1_method_52_code
def yX11_errors : MethodName := ⟨RX11, "errors", "()I"⟩
theorem dX11_errors_0 : decode cX11_errors 0 = .ok (.aload_n 0, 1) := by decide +kernel
theorem dX11_errors_1 : decode cX11_errors 1 = .ok (.getfield 80, 3) := by decide +kernel
theorem dX11_errors_4 : decode cX11_errors 4 = .ok (.aload_n 0, 1) := by decide +kernel
theorem dX11_errors_5 : decode cX11_errors 5 = .ok (.getfield 10, 3) := by decide +kernel
theorem dX11_errors_8 : decode cX11_errors 8 = .ok (.invokevirtual 463, 3) := by decide +kernel
theorem dX11_errors_11 : decode cX11_errors 11 = .ok (.iconst 0, 1) := by decide +kernel
theorem dX11_errors_12 : decode cX11_errors 12 = .ok (.istore_n 1, 1) := by decide +kernel
theorem dX11_errors_13 : decode cX11_errors 13 = .ok (.iconst 0, 1) := by decide +kernel
theorem dX11_errors_14 : decode cX11_errors 14 = .ok (.istore_n 2, 1) := by decide +kernel
theorem dX11_errors_15 : decode cX11_errors 15 = .ok (.iload_n 2, 1) := by decide +kernel
theorem dX11_errors_16 : decode cX11_errors 16 = .ok (.bipush 100, 2) := by decide +kernel
theorem dX11_errors_18 : decode cX11_errors 18 = .ok (.if_icmp .ge 82, 3) := by decide +kernel
theorem dX11_errors_100 : decode cX11_errors 100 = .ok (.aload_n 0, 1) := by decide +kernel
theorem dX11_errors_101 : decode cX11_errors 101 = .ok (.getfield 80, 3) := by decide +kernel
theorem dX11_errors_104 : decode cX11_errors 104 = .ok (.aload_n 0, 1) := by decide +kernel
theorem dX11_errors_105 : decode cX11_errors 105 = .ok (.getfield 10, 3) := by decide +kernel
theorem zw_584 : Cond.methodLink RX11 488 yX5_limitToAssumptions ∈ zT := zT_of 593 (by decide +kernel) (by decide +kernel)
theorem zw_585 : Cond.instanceMethod yX5_limitToAssumptions ∈ zT := zT_of 594 (by decide +kernel) (by decide +kernel)
theorem zw_586 : Cond.selects RX5 yX5_limitToAssumptions yX5_limitToAssumptions ∈ zT := zT_of 595 (by decide +kernel) (by decide +kernel)
theorem zw_587 : Cond.code yX5_limitToAssumptions cX5_limitToAssumptions 3 none ∈ zT := zT_of 596 (by decide +kernel) (by decide +kernel)
theorem dX11_errors_108 : decode cX11_errors 108 = .ok (.invokevirtual 488, 3) := by decide +kernel
theorem dX11_errors_111 : decode cX11_errors 111 = .ok (.iconst 0, 1) := by decide +kernel
theorem dX11_errors_112 : decode cX11_errors 112 = .ok (.istore_n 2, 1) := by decide +kernel
theorem dX11_errors_113 : decode cX11_errors 113 = .ok (.iload_n 2, 1) := by decide +kernel
theorem dX11_errors_114 : decode cX11_errors 114 = .ok (.iconst 4, 1) := by decide +kernel
theorem dX11_errors_115 : decode cX11_errors 115 = .ok (.if_icmp .ge 86, 3) := by decide +kernel
theorem dX11_errors_118 : decode cX11_errors 118 = .ok (.aload_n 0, 1) := by decide +kernel
theorem dX11_errors_119 : decode cX11_errors 119 = .ok (.getfield 66, 3) := by decide +kernel
theorem dX11_errors_122 : decode cX11_errors 122 = .ok (.aload_n 0, 1) := by decide +kernel
theorem dX11_errors_123 : decode cX11_errors 123 = .ok (.getfield 10, 3) := by decide +kernel
theorem dX11_errors_126 : decode cX11_errors 126 = .ok (.aload_n 0, 1) := by decide +kernel
theorem dX11_errors_127 : decode cX11_errors 127 = .ok (.getfield 10, 3) := by decide +kernel
theorem dX11_errors_130 : decode cX11_errors 130 = .ok (.getfield 263, 3) := by decide +kernel
theorem dX11_errors_133 : decode cX11_errors 133 = .ok (.iload_n 2, 1) := by decide +kernel
theorem dX11_errors_134 : decode cX11_errors 134 = .ok (.aaload, 1) := by decide +kernel
theorem dX11_errors_135 : decode cX11_errors 135 = .ok (.aload_n 0, 1) := by decide +kernel
theorem dX11_errors_136 : decode cX11_errors 136 = .ok (.getfield 10, 3) := by decide +kernel
theorem dX11_errors_139 : decode cX11_errors 139 = .ok (.invokevirtual 334, 3) := by decide +kernel
theorem dX11_errors_142 : decode cX11_errors 142 = .ok (.invokevirtual 267, 3) := by decide +kernel
theorem dX11_errors_145 : decode cX11_errors 145 = .ok (.aload_n 0, 1) := by decide +kernel
theorem dX11_errors_146 : decode cX11_errors 146 = .ok (.getfield 66, 3) := by decide +kernel
theorem dX11_errors_149 : decode cX11_errors 149 = .ok (.aload_n 0, 1) := by decide +kernel
theorem dX11_errors_150 : decode cX11_errors 150 = .ok (.getfield 10, 3) := by decide +kernel
theorem dX11_errors_153 : decode cX11_errors 153 = .ok (.getfield 263, 3) := by decide +kernel
theorem dX11_errors_156 : decode cX11_errors 156 = .ok (.iload_n 2, 1) := by decide +kernel
theorem dX11_errors_157 : decode cX11_errors 157 = .ok (.aaload, 1) := by decide +kernel
theorem dX11_errors_158 : decode cX11_errors 158 = .ok (.iconst (-1), 1) := by decide +kernel
theorem dX11_errors_159 : decode cX11_errors 159 = .ok (.invokevirtual 491, 3) := by decide +kernel
theorem dX11_errors_162 : decode cX11_errors 162 = .ok (.astore_n 3, 1) := by decide +kernel
theorem dX11_errors_163 : decode cX11_errors 163 = .ok (.iload_n 1, 1) := by decide +kernel
theorem dX11_errors_164 : decode cX11_errors 164 = .ok (.aload_n 3, 1) := by decide +kernel
theorem dX11_errors_165 : decode cX11_errors 165 = .ok (.ifnull 27, 3) := by decide +kernel
theorem dX11_errors_192 : decode cX11_errors 192 = .ok (.iconst 0, 1) := by decide +kernel
theorem dX11_errors_193 : decode cX11_errors 193 = .ok (.iadd, 1) := by decide +kernel
theorem dX11_errors_194 : decode cX11_errors 194 = .ok (.istore_n 1, 1) := by decide +kernel
theorem dX11_errors_195 : decode cX11_errors 195 = .ok (.iinc 2 1, 3) := by decide +kernel
theorem dX11_errors_198 : decode cX11_errors 198 = .ok (.goto (-85), 3) := by decide +kernel
theorem dX11_errors_201 : decode cX11_errors 201 = .ok (.iload_n 1, 1) := by decide +kernel
theorem dX11_errors_202 : decode cX11_errors 202 = .ok (.ireturn, 1) := by decide +kernel
theorem dX11_errors_21 : decode cX11_errors 21 = .ok (.aload_n 0, 1) := by decide +kernel
theorem dX11_errors_22 : decode cX11_errors 22 = .ok (.getfield 10, 3) := by decide +kernel
theorem dX11_errors_25 : decode cX11_errors 25 = .ok (.getfield 222, 3) := by decide +kernel
theorem dX11_errors_28 : decode cX11_errors 28 = .ok (.iload_n 2, 1) := by decide +kernel
theorem dX11_errors_29 : decode cX11_errors 29 = .ok (.aaload, 1) := by decide +kernel
theorem dX11_errors_30 : decode cX11_errors 30 = .ok (.astore_n 3, 1) := by decide +kernel
theorem dX11_errors_31 : decode cX11_errors 31 = .ok (.aload_n 3, 1) := by decide +kernel
theorem dX11_errors_32 : decode cX11_errors 32 = .ok (.ifnull 62, 3) := by decide +kernel
theorem dX11_errors_94 : decode cX11_errors 94 = .ok (.iinc 2 1, 3) := by decide +kernel
theorem dX11_errors_97 : decode cX11_errors 97 = .ok (.goto (-82), 3) := by decide +kernel
theorem zupd0 {k : Nat} : upd zI0 k 0 = zI0 := by
  funext j
  unfold upd
  split <;> rfl
set_option maxHeartbeats 4000000 in
set_option maxRecDepth 100000 in
theorem k_X10_add (l : Launch) (sz : Nat) (D : va_G) (h cs : Nat → Nat) (x y : Int32) (g : Nat → Int32) (hx9 : 0 ≤ x.toInt ∧ x.toInt < 200) : Met l yX10_add (.code yX10_add cX10_add 2 none :: zT) ({ frames := 0, cells := 0, slots := 0, locals := 0 }) (va_Pc [.ref (h 38), .int y] (zM D [((h 38), .inr (10, [.ref (h 39), .int x, .ref (h 40), .int 0, .ref (h 80), .int 0, .int 0])), ((h 39), .inl ((cs 13), 200, .inl g))] [((cs 13), .int)] sz)) (va_Qv (fun (_ : Unit) => True) (fun _ t => ∃ g2 : Nat → Int32, zE D [((h 38), .inr (10, [.ref (h 39), .int (x + 1), .ref (h 40), .int 0, .ref (h 80), .int 0, .int 0])), ((h 39), .inl ((cs 13), 200, .inl g2))] [] (va_A [((h 38), .inr (10, [.ref (h 39), .int x, .ref (h 40), .int 0, .ref (h 80), .int 0, .int 0])), ((h 39), .inl ((cs 13), 200, .inl g))] sz) t) (va_A [((h 38), .inr (10, [.ref (h 39), .int x, .ref (h 40), .int 0, .ref (h 80), .int 0, .int 0])), ((h 39), .inl ((cs 13), 200, .inl g))] sz)) 0 0 (va_A [((h 38), .inr (10, [.ref (h 39), .int x, .ref (h 40), .int 0, .ref (h 80), .int 0, .int 0])), ((h 39), .inl ((cs 13), 200, .inl g))] sz) := by
  refine Met.ofW (cc := cX10_add) (maxL := 2) (ret := none) (by decide) rfl ?_
  intro p e s m args below meth c s₁ B hml hv
  obtain ⟨rfl, hsz, hP, hK, hD0⟩ := hv
  have hx := B.exec
  have hb := B.bytes
  have hr := B.returns
  have hts := atoms_spec (ws := (.code yX10_add cX10_add 2 none :: zT)) B.pre
  have ht : ∀ w ∈ zT, w.before _ s = true := fun w h => hts w (List.mem_cons_of_mem _ h)
  have hown : s.vm.findClass RX10 = some m.cls := findClass_of_methodNamed B.named
  have hlocks := B.notSynchronized
  subst hsz
  have hD := hD0.self (sz := s.heap.size)
  generalize hAe : va_A [((h 38), .inr (10, [.ref (h 39), .int x, .ref (h 40), .int 0, .ref (h 80), .int 0, .int 0])), ((h 39), .inl ((cs 13), 200, .inl g))] s.heap.size = A at hD ⊢
  have hA : ∀ q : Nat, s.heap.size ≤ q → A q := fun q h => by rw [← hAe]; exact Or.inr h
  have hS : va_S A s.heap s.heap [] := va_S.rf
  have hP : va_P D vwCl [((h 38), .inr (10, [.ref (h 39), .int x, .ref (h 40), .int 0, .ref (h 80), .int 0, .int 0])), ((h 39), .inl ((cs 13), 200, .inl g))] s.heap := hP
  have hl := lv_entry ([.ref (h 38), .int y]) (n := 2) (Nat.le_of_ble_eq_true rfl)
  rw [lg_entry_eq]
  generalize (lg_sl ([.ref (h 38), .int y]) ++ List.replicate (2 - (lg_sl ([.ref (h 38), .int y])).length) Slot.unset).toArray = ls at hl ⊢
  have hl : lv_has ls 2 [(0, .ref (h 38)), (1, .int y)] := hl
  skip
  refine lv_aload_n hx hb dX10_add_0 rfl (lv_at hl 0 rfl) ?_
  refine va_get (D := D) (ci := 10) (v := .int x) (C := RX10) (T := TX10) (N := 7) hx hb ht zinX10 hown hK hP 0 rfl rfl 1 (by decide) (ht _ zw_213) (fun _ h9 => h9) rfl dX10_add_1 ?_
  refine lv_aload_n hx hb dX10_add_4 rfl (lv_at hl 0 rfl) ?_
  refine va_get (D := D) (ci := 10) (v := .ref (h 39)) (C := RX10) (T := TX10) (N := 7) hx hb ht zinX10 hown hK hP 0 rfl rfl 0 (by decide) (ht _ zw_219) (fun _ h9 => h9) rfl dX10_add_5 ?_
  refine va_alen (v := 200) hx hb hK hP 1 0 rfl rfl rfl dX10_add_8 ?_
  refine lv_icmp_ge (tgt := 32) hx hb dX10_add_9 (by decide) (fun c_1 => ?_) (fun c_1 => ?_)
  · skip
    simp only [fa_lt, fa_le, fa_eq, Int32.reduceToInt] at c_1
    exfalso; omega
  · skip
    simp only [fa_lt, fa_le, fa_eq, Int32.reduceToInt] at c_1
    refine lv_aload_n hx hb dX10_add_12 rfl (lv_at hl 0 rfl) ?_
    refine va_get (D := D) (ci := 10) (v := .ref (h 39)) (C := RX10) (T := TX10) (N := 7) hx hb ht zinX10 hown hK hP 0 rfl rfl 0 (by decide) (ht _ zw_219) (fun _ h9 => h9) rfl dX10_add_13 ?_
    refine lv_aload_n hx hb dX10_add_16 rfl (lv_at hl 0 rfl) ?_
    refine va_get (D := D) (ci := 10) (v := .int x) (C := RX10) (T := TX10) (N := 7) hx hb ht zinX10 hown hK hP 0 rfl rfl 1 (by decide) (ht _ zw_213) (fun _ h9 => h9) rfl dX10_add_17 ?_
    refine lv_iload_n hx hb dX10_add_20 rfl (lv_at hl 1 rfl) ?_
    refine va_iast hx hb hK hP hD hS 1 0 rfl rfl (vp_in_iff.mpr ⟨by omega, by omega⟩) dX10_add_21 (fun H locs hP hD hS => ?_)
    have hP : va_P D vwCl [((h 38), .inr (10, [.ref (h 39), .int x, .ref (h 40), .int 0, .ref (h 80), .int 0, .int 0])), ((h 39), .inl ((cs 13), 200, .inl (upd g x.toNatClampNeg y)))] H := hP
    have hD : va_D A [((h 38), .inr (10, [.ref (h 39), .int x, .ref (h 40), .int 0, .ref (h 80), .int 0, .int 0])), ((h 39), .inl ((cs 13), 200, .inl (upd g x.toNatClampNeg y)))] := hD
    refine lv_aload_n hx hb dX10_add_22 rfl (lv_at hl 0 rfl) ?_
    refine lv_dup hx hb dX10_add_23 rfl ?_
    refine va_get (D := D) (ci := 10) (v := .int x) (C := RX10) (T := TX10) (N := 7) hx hb ht zinX10 hown hK hP 0 rfl rfl 1 (by decide) (ht _ zw_213) (fun _ h9 => h9) rfl dX10_add_24 ?_
    refine lv_iconst (v := 1) hx hb dX10_add_27 (by decide) ?_
    refine lv_iadd hx hb dX10_add_28 ?_
    refine lv_topi (fun x_2 e_2 => ?_)
    refine va_put (D := D) (ci := 10) (v := .int x_2) (ty := .int) (C := RX10) (T := TX10) (N := 7) hx hb ht zinX10 tyX10 tyX10_ok nmX10 hown hK hP hD hS 0 rfl rfl 1 (by decide) (ht _ zw_213) (fun _ h9 => h9) rfl (by decide +kernel) rfl rfl (Nat.le_of_ble_eq_true rfl) dX10_add_29 (fun H locs hP hD hS => ?_)
    have hP : va_P D vwCl [((h 38), .inr (10, [.ref (h 39), .int x_2, .ref (h 40), .int 0, .ref (h 80), .int 0, .int 0])), ((h 39), .inl ((cs 13), 200, .inl (upd g x.toNatClampNeg y)))] H := hP
    have hD : va_D A [((h 38), .inr (10, [.ref (h 39), .int x_2, .ref (h 40), .int 0, .ref (h 80), .int 0, .int 0])), ((h 39), .inl ((cs 13), 200, .inl (upd g x.toNatClampNeg y)))] := hD
    rw [e_2] at hP hD
    have hP : va_P D vwCl [((h 38), .inr (10, [.ref (h 39), .int (x + 1), .ref (h 40), .int 0, .ref (h 80), .int 0, .int 0])), ((h 39), .inl ((cs 13), 200, .inl (upd g x.toNatClampNeg y)))] H := hP
    have hD : va_D A [((h 38), .inr (10, [.ref (h 39), .int (x + 1), .ref (h 40), .int 0, .ref (h 80), .int 0, .int 0])), ((h 39), .inl ((cs 13), 200, .inl (upd g x.toNatClampNeg y)))] := hD
    have hP9 := hP
    have hD9 := hD
    have hK9 := hK.sub (tys' := []) [] rfl
    refine W.widen (k := 0) (n := 0) (Nat.le_of_ble_eq_true rfl) (Nat.le_of_ble_eq_true rfl) ?_
    exact W.vret hx hb hr (fun t ht0 hW => ⟨⟨(), rfl, trivial, (upd g x.toNatClampNeg y), zE_of hP9 hK9 hD9 ht0 hW⟩, hS.F ht0⟩) hS.2.2 dX10_add_32
set_option maxHeartbeats 4000000 in
set_option maxRecDepth 100000 in
theorem k_X11_type (l : Launch) (hl0 : l.stackTraces = false) (sz : Nat) (D : va_G) (h cs : Nat → Nat) (p0 : Int64) : vx_Met l yX11_type (.code yX11_type cX11_type 6 (some .int) :: zT) ({ frames := 1, cells := 0, slots := 0, locals := 21 }) (va_Pc [.ref (h 0), .long p0] (zW D [((h 0), .inr (11, [.ref (h 1), .ref (h 9), .int 0, .int 0, .ref (h 20), .ref (h 37), .int 0, .ref (h 38), .ref (h 42), .ref (h 43), .ref (h 44), .ref (h 45), .ref (h 46), .ref (h 47), .ref (h 48)])), ((h 38), .inr (10, [.ref (h 39), .int 0, .ref (h 40), .int 0, .ref (h 80), .int 0, .int 0])), ((h 39), .inl ((cs 13), 200, .inl zI0))] [((cs 13), .int)] sz)) (va_Qi (fun (r : Int32) (_ : Unit) => r = zN p0 8) (fun _ t => zE D [] [] (va_A [((h 0), .inr (11, [.ref (h 1), .ref (h 9), .int 0, .int 0, .ref (h 20), .ref (h 37), .int 0, .ref (h 38), .ref (h 42), .ref (h 43), .ref (h 44), .ref (h 45), .ref (h 46), .ref (h 47), .ref (h 48)])), ((h 38), .inr (10, [.ref (h 39), .int 0, .ref (h 40), .int 0, .ref (h 80), .int 0, .int 0])), ((h 39), .inl ((cs 13), 200, .inl zI0))] sz) t) (va_A [((h 0), .inr (11, [.ref (h 1), .ref (h 9), .int 0, .int 0, .ref (h 20), .ref (h 37), .int 0, .ref (h 38), .ref (h 42), .ref (h 43), .ref (h 44), .ref (h 45), .ref (h 46), .ref (h 47), .ref (h 48)])), ((h 38), .inr (10, [.ref (h 39), .int 0, .ref (h 40), .int 0, .ref (h 80), .int 0, .int 0])), ((h 39), .inl ((cs 13), 200, .inl zI0))] sz)) (vx_X (fun _ : Unit => True) (fun E _ _ => False) (va_A [((h 0), .inr (11, [.ref (h 1), .ref (h 9), .int 0, .int 0, .ref (h 20), .ref (h 37), .int 0, .ref (h 38), .ref (h 42), .ref (h 43), .ref (h 44), .ref (h 45), .ref (h 46), .ref (h 47), .ref (h 48)])), ((h 38), .inr (10, [.ref (h 39), .int 0, .ref (h 40), .int 0, .ref (h 80), .int 0, .int 0])), ((h 39), .inl ((cs 13), 200, .inl zI0))] sz)) 0 0 (va_A [((h 0), .inr (11, [.ref (h 1), .ref (h 9), .int 0, .int 0, .ref (h 20), .ref (h 37), .int 0, .ref (h 38), .ref (h 42), .ref (h 43), .ref (h 44), .ref (h 45), .ref (h 46), .ref (h 47), .ref (h 48)])), ((h 38), .inr (10, [.ref (h 39), .int 0, .ref (h 40), .int 0, .ref (h 80), .int 0, .int 0])), ((h 39), .inl ((cs 13), 200, .inl zI0))] sz) := by
  refine vx_ofW (cc := cX11_type) (maxL := 6) (ret := (some .int)) (by decide) rfl ?_
  intro p e s m args below meth c s₁ B hml hexc hv
  obtain ⟨rfl, hEx, hsz, hP, hK, hD0⟩ := hv
  have hx := B.exec
  have hb := B.bytes
  have hr := B.returns
  have hts := atoms_spec (ws := (.code yX11_type cX11_type 6 (some .int) :: zT)) B.pre
  have ht : ∀ w ∈ zT, w.before _ s = true := fun w h => hts w (List.mem_cons_of_mem _ h)
  have hown : s.vm.findClass RX11 = some m.cls := findClass_of_methodNamed B.named
  have hlocks := B.notSynchronized
  subst hsz
  have hD := hD0.self (sz := s.heap.size)
  generalize hAe : va_A [((h 0), .inr (11, [.ref (h 1), .ref (h 9), .int 0, .int 0, .ref (h 20), .ref (h 37), .int 0, .ref (h 38), .ref (h 42), .ref (h 43), .ref (h 44), .ref (h 45), .ref (h 46), .ref (h 47), .ref (h 48)])), ((h 38), .inr (10, [.ref (h 39), .int 0, .ref (h 40), .int 0, .ref (h 80), .int 0, .int 0])), ((h 39), .inl ((cs 13), 200, .inl zI0))] s.heap.size = A at hD hEx ⊢
  have hA : ∀ q : Nat, s.heap.size ≤ q → A q := fun q h => by rw [← hAe]; exact Or.inr h
  have hS : va_S A s.heap s.heap [] := va_S.rf
  have hP : va_P D vwCl [((h 0), .inr (11, [.ref (h 1), .ref (h 9), .int 0, .int 0, .ref (h 20), .ref (h 37), .int 0, .ref (h 38), .ref (h 42), .ref (h 43), .ref (h 44), .ref (h 45), .ref (h 46), .ref (h 47), .ref (h 48)])), ((h 38), .inr (10, [.ref (h 39), .int 0, .ref (h 40), .int 0, .ref (h 80), .int 0, .int 0])), ((h 39), .inl ((cs 13), 200, .inl zI0))] s.heap := hP
  have hl := lv_entry ([.ref (h 0), .long p0]) (n := 6) (Nat.le_of_ble_eq_true rfl)
  rw [lg_entry_eq]
  generalize (lg_sl ([.ref (h 0), .long p0]) ++ List.replicate (6 - (lg_sl ([.ref (h 0), .long p0])).length) Slot.unset).toArray = ls at hl ⊢
  have hl : lv_has ls 6 [(0, .ref (h 0)), (1, .long p0)] := hl
  skip
  refine lv_iconst (v := 0) hx hb dX11_type_0 (by decide) ?_
  refine lv_istore_n (lv' := [(3, .int 0), (0, .ref (h 0)), (1, .long p0)]) hx hb dX11_type_1 rfl hl (by decide) rfl (fun ls hl => ?_)
  refine lv_bipush (v := 56) hx hb dX11_type_2 (by decide) ?_
  refine lv_istore (lv' := [(4, .int 56), (3, .int 0), (0, .ref (h 0)), (1, .long p0)]) hx hb dX11_type_4 hl (by decide) rfl (fun ls hl => ?_)
  refine lv_iload hx hb dX11_type_6 (lv_at hl 0 rfl) ?_
  refine lv_if_lt (tgt := 38) hx hb dX11_type_8 (by decide) (fun c_1 => ?_) (fun c_1 => ?_)
  · skip
    exact absurd c_1 (by decide)
  · skip
    have hj_0 : ∀ z : Int32, z = zC p0 56 → W p l e (headSpec (.code yX11_type cX11_type 6 (some .int) :: zT) ({ frames := 1, cells := 0, slots := 0, locals := 21 })).room s m (([.ref (h 0), .long p0] : List Value)).toArray below meth c s.heap [] 0 0 (vx_MQ below (va_Qi (fun (r : Int32) (_ : Unit) => r = zN p0 8) (fun _ t => zE D [] [] A t) A) (vx_X (fun _ : Unit => True) (fun E _ _ => False) A) (([.ref (h 0), .long p0] : List Value)).toArray s 0 0 A) (F0 m 30 ls [.int z, .int (zN p0 0)]) := by
      intro z hz_0
      refine lv_iadd hx hb dX11_type_30 ?_
      refine lv_topi (fun x_2 e_2 => ?_)
      obtain rfl : x_2 = zN p0 1 := by rw [e_2, hz_0]; rfl
      refine lv_istore_n (lv' := [(3, .int (zN p0 1)), (4, .int 56), (0, .ref (h 0)), (1, .long p0)]) hx hb dX11_type_31 rfl hl (by decide) rfl (fun ls hl => ?_)
      refine lv_iinc (v := 48) (lv' := [(4, .int 48), (3, .int (zN p0 1)), (0, .ref (h 0)), (1, .long p0)]) hx hb dX11_type_32 hl (k := 1) rfl (by decide) (by decide) rfl (fun ls hl => ?_)
      refine lv_goto (tgt := 6) hx hb dX11_type_35 (by decide) ?_
      refine lv_iload hx hb dX11_type_6 (lv_at hl 0 rfl) ?_
      refine lv_if_lt (tgt := 38) hx hb dX11_type_8 (by decide) (fun c_4 => ?_) (fun c_4 => ?_)
      · skip
        exact absurd c_4 (by decide)
      · skip
        have hj_1 : ∀ z : Int32, z = zC p0 48 → W p l e (headSpec (.code yX11_type cX11_type 6 (some .int) :: zT) ({ frames := 1, cells := 0, slots := 0, locals := 21 })).room s m (([.ref (h 0), .long p0] : List Value)).toArray below meth c s.heap [] 0 0 (vx_MQ below (va_Qi (fun (r : Int32) (_ : Unit) => r = zN p0 8) (fun _ t => zE D [] [] A t) A) (vx_X (fun _ : Unit => True) (fun E _ _ => False) A) (([.ref (h 0), .long p0] : List Value)).toArray s 0 0 A) (F0 m 30 ls [.int z, .int (zN p0 1)]) := by
          intro z hz_1
          refine lv_iadd hx hb dX11_type_30 ?_
          refine lv_topi (fun x_5 e_5 => ?_)
          obtain rfl : x_5 = zN p0 2 := by rw [e_5, hz_1]; rfl
          refine lv_istore_n (lv' := [(3, .int (zN p0 2)), (4, .int 48), (0, .ref (h 0)), (1, .long p0)]) hx hb dX11_type_31 rfl hl (by decide) rfl (fun ls hl => ?_)
          refine lv_iinc (v := 40) (lv' := [(4, .int 40), (3, .int (zN p0 2)), (0, .ref (h 0)), (1, .long p0)]) hx hb dX11_type_32 hl (k := 1) rfl (by decide) (by decide) rfl (fun ls hl => ?_)
          refine lv_goto (tgt := 6) hx hb dX11_type_35 (by decide) ?_
          refine lv_iload hx hb dX11_type_6 (lv_at hl 0 rfl) ?_
          refine lv_if_lt (tgt := 38) hx hb dX11_type_8 (by decide) (fun c_7 => ?_) (fun c_7 => ?_)
          · skip
            exact absurd c_7 (by decide)
          · skip
            have hj_2 : ∀ z : Int32, z = zC p0 40 → W p l e (headSpec (.code yX11_type cX11_type 6 (some .int) :: zT) ({ frames := 1, cells := 0, slots := 0, locals := 21 })).room s m (([.ref (h 0), .long p0] : List Value)).toArray below meth c s.heap [] 0 0 (vx_MQ below (va_Qi (fun (r : Int32) (_ : Unit) => r = zN p0 8) (fun _ t => zE D [] [] A t) A) (vx_X (fun _ : Unit => True) (fun E _ _ => False) A) (([.ref (h 0), .long p0] : List Value)).toArray s 0 0 A) (F0 m 30 ls [.int z, .int (zN p0 2)]) := by
              intro z hz_2
              refine lv_iadd hx hb dX11_type_30 ?_
              refine lv_topi (fun x_8 e_8 => ?_)
              obtain rfl : x_8 = zN p0 3 := by rw [e_8, hz_2]; rfl
              refine lv_istore_n (lv' := [(3, .int (zN p0 3)), (4, .int 40), (0, .ref (h 0)), (1, .long p0)]) hx hb dX11_type_31 rfl hl (by decide) rfl (fun ls hl => ?_)
              refine lv_iinc (v := 32) (lv' := [(4, .int 32), (3, .int (zN p0 3)), (0, .ref (h 0)), (1, .long p0)]) hx hb dX11_type_32 hl (k := 1) rfl (by decide) (by decide) rfl (fun ls hl => ?_)
              refine lv_goto (tgt := 6) hx hb dX11_type_35 (by decide) ?_
              refine lv_iload hx hb dX11_type_6 (lv_at hl 0 rfl) ?_
              refine lv_if_lt (tgt := 38) hx hb dX11_type_8 (by decide) (fun c_10 => ?_) (fun c_10 => ?_)
              · skip
                exact absurd c_10 (by decide)
              · skip
                have hj_3 : ∀ z : Int32, z = zC p0 32 → W p l e (headSpec (.code yX11_type cX11_type 6 (some .int) :: zT) ({ frames := 1, cells := 0, slots := 0, locals := 21 })).room s m (([.ref (h 0), .long p0] : List Value)).toArray below meth c s.heap [] 0 0 (vx_MQ below (va_Qi (fun (r : Int32) (_ : Unit) => r = zN p0 8) (fun _ t => zE D [] [] A t) A) (vx_X (fun _ : Unit => True) (fun E _ _ => False) A) (([.ref (h 0), .long p0] : List Value)).toArray s 0 0 A) (F0 m 30 ls [.int z, .int (zN p0 3)]) := by
                  intro z hz_3
                  refine lv_iadd hx hb dX11_type_30 ?_
                  refine lv_topi (fun x_11 e_11 => ?_)
                  obtain rfl : x_11 = zN p0 4 := by rw [e_11, hz_3]; rfl
                  refine lv_istore_n (lv' := [(3, .int (zN p0 4)), (4, .int 32), (0, .ref (h 0)), (1, .long p0)]) hx hb dX11_type_31 rfl hl (by decide) rfl (fun ls hl => ?_)
                  refine lv_iinc (v := 24) (lv' := [(4, .int 24), (3, .int (zN p0 4)), (0, .ref (h 0)), (1, .long p0)]) hx hb dX11_type_32 hl (k := 1) rfl (by decide) (by decide) rfl (fun ls hl => ?_)
                  refine lv_goto (tgt := 6) hx hb dX11_type_35 (by decide) ?_
                  refine lv_iload hx hb dX11_type_6 (lv_at hl 0 rfl) ?_
                  refine lv_if_lt (tgt := 38) hx hb dX11_type_8 (by decide) (fun c_13 => ?_) (fun c_13 => ?_)
                  · skip
                    exact absurd c_13 (by decide)
                  · skip
                    have hj_4 : ∀ z : Int32, z = zC p0 24 → W p l e (headSpec (.code yX11_type cX11_type 6 (some .int) :: zT) ({ frames := 1, cells := 0, slots := 0, locals := 21 })).room s m (([.ref (h 0), .long p0] : List Value)).toArray below meth c s.heap [] 0 0 (vx_MQ below (va_Qi (fun (r : Int32) (_ : Unit) => r = zN p0 8) (fun _ t => zE D [] [] A t) A) (vx_X (fun _ : Unit => True) (fun E _ _ => False) A) (([.ref (h 0), .long p0] : List Value)).toArray s 0 0 A) (F0 m 30 ls [.int z, .int (zN p0 4)]) := by
                      intro z hz_4
                      refine lv_iadd hx hb dX11_type_30 ?_
                      refine lv_topi (fun x_14 e_14 => ?_)
                      obtain rfl : x_14 = zN p0 5 := by rw [e_14, hz_4]; rfl
                      refine lv_istore_n (lv' := [(3, .int (zN p0 5)), (4, .int 24), (0, .ref (h 0)), (1, .long p0)]) hx hb dX11_type_31 rfl hl (by decide) rfl (fun ls hl => ?_)
                      refine lv_iinc (v := 16) (lv' := [(4, .int 16), (3, .int (zN p0 5)), (0, .ref (h 0)), (1, .long p0)]) hx hb dX11_type_32 hl (k := 1) rfl (by decide) (by decide) rfl (fun ls hl => ?_)
                      refine lv_goto (tgt := 6) hx hb dX11_type_35 (by decide) ?_
                      refine lv_iload hx hb dX11_type_6 (lv_at hl 0 rfl) ?_
                      refine lv_if_lt (tgt := 38) hx hb dX11_type_8 (by decide) (fun c_16 => ?_) (fun c_16 => ?_)
                      · skip
                        exact absurd c_16 (by decide)
                      · skip
                        have hj_5 : ∀ z : Int32, z = zC p0 16 → W p l e (headSpec (.code yX11_type cX11_type 6 (some .int) :: zT) ({ frames := 1, cells := 0, slots := 0, locals := 21 })).room s m (([.ref (h 0), .long p0] : List Value)).toArray below meth c s.heap [] 0 0 (vx_MQ below (va_Qi (fun (r : Int32) (_ : Unit) => r = zN p0 8) (fun _ t => zE D [] [] A t) A) (vx_X (fun _ : Unit => True) (fun E _ _ => False) A) (([.ref (h 0), .long p0] : List Value)).toArray s 0 0 A) (F0 m 30 ls [.int z, .int (zN p0 5)]) := by
                          intro z hz_5
                          refine lv_iadd hx hb dX11_type_30 ?_
                          refine lv_topi (fun x_17 e_17 => ?_)
                          obtain rfl : x_17 = zN p0 6 := by rw [e_17, hz_5]; rfl
                          refine lv_istore_n (lv' := [(3, .int (zN p0 6)), (4, .int 16), (0, .ref (h 0)), (1, .long p0)]) hx hb dX11_type_31 rfl hl (by decide) rfl (fun ls hl => ?_)
                          refine lv_iinc (v := 8) (lv' := [(4, .int 8), (3, .int (zN p0 6)), (0, .ref (h 0)), (1, .long p0)]) hx hb dX11_type_32 hl (k := 1) rfl (by decide) (by decide) rfl (fun ls hl => ?_)
                          refine lv_goto (tgt := 6) hx hb dX11_type_35 (by decide) ?_
                          refine lv_iload hx hb dX11_type_6 (lv_at hl 0 rfl) ?_
                          refine lv_if_lt (tgt := 38) hx hb dX11_type_8 (by decide) (fun c_19 => ?_) (fun c_19 => ?_)
                          · skip
                            exact absurd c_19 (by decide)
                          · skip
                            have hj_6 : ∀ z : Int32, z = zC p0 8 → W p l e (headSpec (.code yX11_type cX11_type 6 (some .int) :: zT) ({ frames := 1, cells := 0, slots := 0, locals := 21 })).room s m (([.ref (h 0), .long p0] : List Value)).toArray below meth c s.heap [] 0 0 (vx_MQ below (va_Qi (fun (r : Int32) (_ : Unit) => r = zN p0 8) (fun _ t => zE D [] [] A t) A) (vx_X (fun _ : Unit => True) (fun E _ _ => False) A) (([.ref (h 0), .long p0] : List Value)).toArray s 0 0 A) (F0 m 30 ls [.int z, .int (zN p0 6)]) := by
                              intro z hz_6
                              refine lv_iadd hx hb dX11_type_30 ?_
                              refine lv_topi (fun x_20 e_20 => ?_)
                              obtain rfl : x_20 = zN p0 7 := by rw [e_20, hz_6]; rfl
                              refine lv_istore_n (lv' := [(3, .int (zN p0 7)), (4, .int 8), (0, .ref (h 0)), (1, .long p0)]) hx hb dX11_type_31 rfl hl (by decide) rfl (fun ls hl => ?_)
                              refine lv_iinc (v := 0) (lv' := [(4, .int 0), (3, .int (zN p0 7)), (0, .ref (h 0)), (1, .long p0)]) hx hb dX11_type_32 hl (k := 1) rfl (by decide) (by decide) rfl (fun ls hl => ?_)
                              refine lv_goto (tgt := 6) hx hb dX11_type_35 (by decide) ?_
                              refine lv_iload hx hb dX11_type_6 (lv_at hl 0 rfl) ?_
                              refine lv_if_lt (tgt := 38) hx hb dX11_type_8 (by decide) (fun c_22 => ?_) (fun c_22 => ?_)
                              · skip
                                exact absurd c_22 (by decide)
                              · skip
                                have hj_7 : ∀ z : Int32, z = zC p0 0 → W p l e (headSpec (.code yX11_type cX11_type 6 (some .int) :: zT) ({ frames := 1, cells := 0, slots := 0, locals := 21 })).room s m (([.ref (h 0), .long p0] : List Value)).toArray below meth c s.heap [] 0 0 (vx_MQ below (va_Qi (fun (r : Int32) (_ : Unit) => r = zN p0 8) (fun _ t => zE D [] [] A t) A) (vx_X (fun _ : Unit => True) (fun E _ _ => False) A) (([.ref (h 0), .long p0] : List Value)).toArray s 0 0 A) (F0 m 30 ls [.int z, .int (zN p0 7)]) := by
                                  intro z hz_7
                                  refine lv_iadd hx hb dX11_type_30 ?_
                                  refine lv_topi (fun x_23 e_23 => ?_)
                                  obtain rfl : x_23 = zN p0 8 := by rw [e_23, hz_7]; rfl
                                  have hq8 := zN_le p0 8 (by decide)
                                  refine lv_istore_n (lv' := [(3, .int (zN p0 8)), (4, .int 0), (0, .ref (h 0)), (1, .long p0)]) hx hb dX11_type_31 rfl hl (by decide) rfl (fun ls hl => ?_)
                                  refine lv_iinc (v := (-8)) (lv' := [(4, .int (-8)), (3, .int (zN p0 8)), (0, .ref (h 0)), (1, .long p0)]) hx hb dX11_type_32 hl (k := 1) rfl (by decide) (by decide) rfl (fun ls hl => ?_)
                                  refine lv_goto (tgt := 6) hx hb dX11_type_35 (by decide) ?_
                                  refine lv_iload hx hb dX11_type_6 (lv_at hl 0 rfl) ?_
                                  refine lv_if_lt (tgt := 38) hx hb dX11_type_8 (by decide) (fun c_25 => ?_) (fun c_25 => ?_)
                                  · skip
                                    refine lv_aload_n hx hb dX11_type_38 rfl (lv_at hl 2 rfl) ?_
                                    refine va_get (D := D) (ci := 11) (v := .ref (h 38)) (C := RX11) (T := TX11) (N := 15) hx hb ht zinX11 hown hK hP 0 rfl rfl 7 (by decide) (ht _ zw_367) (fun _ h9 => h9) rfl dX11_type_39 ?_
                                    refine va_get (D := D) (ci := 10) (v := .int 0) (C := RX10) (T := TX10) (N := 7) hx hb ht zinX10 hown hK hP 1 rfl rfl 1 (by decide) (ht _ zw_442) (fun _ h9 => h9) rfl dX11_type_42 ?_
                                    refine lv_iload_n hx hb dX11_type_45 rfl (lv_at hl 1 rfl) ?_
                                    refine lv_iadd hx hb dX11_type_46 ?_
                                    refine lv_topi (fun x_26 e_26 => ?_)
                                    refine lv_sipush (v := 200) hx hb dX11_type_47 (by decide) ?_
                                    refine lv_icmp_le (tgt := 64) hx hb dX11_type_50 (by decide) (fun c_27 => ?_) (fun c_27 => ?_)
                                    · skip
                                      simp only [fa_lt, fa_le, fa_eq, Int32.reduceToInt] at c_27
                                      refine lv_bipush (v := 56) hx hb dX11_type_64 (by decide) ?_
                                      refine lv_istore (lv' := [(4, .int 56), (3, .int (zN p0 8)), (0, .ref (h 0)), (1, .long p0)]) hx hb dX11_type_66 hl (by decide) rfl (fun ls hl => ?_)
                                      refine lv_iload hx hb dX11_type_68 (lv_at hl 0 rfl) ?_
                                      refine lv_if_lt (tgt := 104) hx hb dX11_type_70 (by decide) (fun c_28 => ?_) (fun c_28 => ?_)
                                      · skip
                                        exact absurd c_28 (by decide)
                                      · skip
                                        have hP : va_P D vwCl [((h 0), .inr (11, [.ref (h 1), .ref (h 9), .int 0, .int 0, .ref (h 20), .ref (h 37), .int 0, .ref (h 38), .ref (h 42), .ref (h 43), .ref (h 44), .ref (h 45), .ref (h 46), .ref (h 47), .ref (h 48)])), ((h 38), .inr (10, [.ref (h 39), .int (zN p0 0), .ref (h 40), .int 0, .ref (h 80), .int 0, .int 0])), ((h 39), .inl ((cs 13), 200, .inl zI0))] s.heap := hP
                                        have hD : va_D A [((h 0), .inr (11, [.ref (h 1), .ref (h 9), .int 0, .int 0, .ref (h 20), .ref (h 37), .int 0, .ref (h 38), .ref (h 42), .ref (h 43), .ref (h 44), .ref (h 45), .ref (h 46), .ref (h 47), .ref (h 48)])), ((h 38), .inr (10, [.ref (h 39), .int (zN p0 0), .ref (h 40), .int 0, .ref (h 80), .int 0, .int 0])), ((h 39), .inl ((cs 13), 200, .inl zI0))] := hD
                                        have hk_0 : ∀ (t : Int32) (g : Nat → Int32) (H : Heap) (locs : List Loc) (ls : Array Slot), t = zN p0 1 → va_P D vwCl [((h 0), .inr (11, [.ref (h 1), .ref (h 9), .int 0, .int 0, .ref (h 20), .ref (h 37), .int 0, .ref (h 38), .ref (h 42), .ref (h 43), .ref (h 44), .ref (h 45), .ref (h 46), .ref (h 47), .ref (h 48)])), ((h 38), .inr (10, [.ref (h 39), .int t, .ref (h 40), .int 0, .ref (h 80), .int 0, .int 0])), ((h 39), .inl ((cs 13), 200, .inl g))] H → va_D A [((h 0), .inr (11, [.ref (h 1), .ref (h 9), .int 0, .int 0, .ref (h 20), .ref (h 37), .int 0, .ref (h 38), .ref (h 42), .ref (h 43), .ref (h 44), .ref (h 45), .ref (h 46), .ref (h 47), .ref (h 48)])), ((h 38), .inr (10, [.ref (h 39), .int t, .ref (h 40), .int 0, .ref (h 80), .int 0, .int 0])), ((h 39), .inl ((cs 13), 200, .inl g))] → va_S A s.heap H locs → lv_has ls 6 [(4, .int 56), (3, .int (zN p0 8)), (0, .ref (h 0)), (1, .long p0)] → W p l e (headSpec (.code yX11_type cX11_type 6 (some .int) :: zT) ({ frames := 1, cells := 0, slots := 0, locals := 21 })).room s m (([.ref (h 0), .long p0] : List Value)).toArray below meth c H locs 0 0 (vx_MQ below (va_Qi (fun (r : Int32) (_ : Unit) => r = zN p0 8) (fun _ t => zE D [] [] A t) A) (vx_X (fun _ : Unit => True) (fun E _ _ => False) A) (([.ref (h 0), .long p0] : List Value)).toArray s 0 0 A) (F0 m 98 ls []) := by
                                          intro t g_900 H locs ls et hP hD hS hl
                                          subst et
                                          refine lv_iinc (v := 48) (lv' := [(4, .int 48), (3, .int (zN p0 8)), (0, .ref (h 0)), (1, .long p0)]) hx hb dX11_type_98 hl (k := 0) rfl (by decide) (by decide) rfl (fun ls hl => ?_)
                                          refine lv_goto (tgt := 68) hx hb dX11_type_101 (by decide) ?_
                                          refine lv_iload hx hb dX11_type_68 (lv_at hl 0 rfl) ?_
                                          refine lv_if_lt (tgt := 104) hx hb dX11_type_70 (by decide) (fun c_30 => ?_) (fun c_30 => ?_)
                                          · skip
                                            exact absurd c_30 (by decide)
                                          · skip
                                            have hP : va_P D vwCl [((h 0), .inr (11, [.ref (h 1), .ref (h 9), .int 0, .int 0, .ref (h 20), .ref (h 37), .int 0, .ref (h 38), .ref (h 42), .ref (h 43), .ref (h 44), .ref (h 45), .ref (h 46), .ref (h 47), .ref (h 48)])), ((h 38), .inr (10, [.ref (h 39), .int (zN p0 1), .ref (h 40), .int 0, .ref (h 80), .int 0, .int 0])), ((h 39), .inl ((cs 13), 200, .inl g_900))] H := hP
                                            have hD : va_D A [((h 0), .inr (11, [.ref (h 1), .ref (h 9), .int 0, .int 0, .ref (h 20), .ref (h 37), .int 0, .ref (h 38), .ref (h 42), .ref (h 43), .ref (h 44), .ref (h 45), .ref (h 46), .ref (h 47), .ref (h 48)])), ((h 38), .inr (10, [.ref (h 39), .int (zN p0 1), .ref (h 40), .int 0, .ref (h 80), .int 0, .int 0])), ((h 39), .inl ((cs 13), 200, .inl g_900))] := hD
                                            have hk_1 : ∀ (t : Int32) (g : Nat → Int32) (H : Heap) (locs : List Loc) (ls : Array Slot), t = zN p0 2 → va_P D vwCl [((h 0), .inr (11, [.ref (h 1), .ref (h 9), .int 0, .int 0, .ref (h 20), .ref (h 37), .int 0, .ref (h 38), .ref (h 42), .ref (h 43), .ref (h 44), .ref (h 45), .ref (h 46), .ref (h 47), .ref (h 48)])), ((h 38), .inr (10, [.ref (h 39), .int t, .ref (h 40), .int 0, .ref (h 80), .int 0, .int 0])), ((h 39), .inl ((cs 13), 200, .inl g))] H → va_D A [((h 0), .inr (11, [.ref (h 1), .ref (h 9), .int 0, .int 0, .ref (h 20), .ref (h 37), .int 0, .ref (h 38), .ref (h 42), .ref (h 43), .ref (h 44), .ref (h 45), .ref (h 46), .ref (h 47), .ref (h 48)])), ((h 38), .inr (10, [.ref (h 39), .int t, .ref (h 40), .int 0, .ref (h 80), .int 0, .int 0])), ((h 39), .inl ((cs 13), 200, .inl g))] → va_S A s.heap H locs → lv_has ls 6 [(4, .int 48), (3, .int (zN p0 8)), (0, .ref (h 0)), (1, .long p0)] → W p l e (headSpec (.code yX11_type cX11_type 6 (some .int) :: zT) ({ frames := 1, cells := 0, slots := 0, locals := 21 })).room s m (([.ref (h 0), .long p0] : List Value)).toArray below meth c H locs 0 0 (vx_MQ below (va_Qi (fun (r : Int32) (_ : Unit) => r = zN p0 8) (fun _ t => zE D [] [] A t) A) (vx_X (fun _ : Unit => True) (fun E _ _ => False) A) (([.ref (h 0), .long p0] : List Value)).toArray s 0 0 A) (F0 m 98 ls []) := by
                                              intro t g_901 H locs ls et hP hD hS hl
                                              subst et
                                              refine lv_iinc (v := 40) (lv' := [(4, .int 40), (3, .int (zN p0 8)), (0, .ref (h 0)), (1, .long p0)]) hx hb dX11_type_98 hl (k := 0) rfl (by decide) (by decide) rfl (fun ls hl => ?_)
                                              refine lv_goto (tgt := 68) hx hb dX11_type_101 (by decide) ?_
                                              refine lv_iload hx hb dX11_type_68 (lv_at hl 0 rfl) ?_
                                              refine lv_if_lt (tgt := 104) hx hb dX11_type_70 (by decide) (fun c_32 => ?_) (fun c_32 => ?_)
                                              · skip
                                                exact absurd c_32 (by decide)
                                              · skip
                                                have hP : va_P D vwCl [((h 0), .inr (11, [.ref (h 1), .ref (h 9), .int 0, .int 0, .ref (h 20), .ref (h 37), .int 0, .ref (h 38), .ref (h 42), .ref (h 43), .ref (h 44), .ref (h 45), .ref (h 46), .ref (h 47), .ref (h 48)])), ((h 38), .inr (10, [.ref (h 39), .int (zN p0 2), .ref (h 40), .int 0, .ref (h 80), .int 0, .int 0])), ((h 39), .inl ((cs 13), 200, .inl g_901))] H := hP
                                                have hD : va_D A [((h 0), .inr (11, [.ref (h 1), .ref (h 9), .int 0, .int 0, .ref (h 20), .ref (h 37), .int 0, .ref (h 38), .ref (h 42), .ref (h 43), .ref (h 44), .ref (h 45), .ref (h 46), .ref (h 47), .ref (h 48)])), ((h 38), .inr (10, [.ref (h 39), .int (zN p0 2), .ref (h 40), .int 0, .ref (h 80), .int 0, .int 0])), ((h 39), .inl ((cs 13), 200, .inl g_901))] := hD
                                                have hk_2 : ∀ (t : Int32) (g : Nat → Int32) (H : Heap) (locs : List Loc) (ls : Array Slot), t = zN p0 3 → va_P D vwCl [((h 0), .inr (11, [.ref (h 1), .ref (h 9), .int 0, .int 0, .ref (h 20), .ref (h 37), .int 0, .ref (h 38), .ref (h 42), .ref (h 43), .ref (h 44), .ref (h 45), .ref (h 46), .ref (h 47), .ref (h 48)])), ((h 38), .inr (10, [.ref (h 39), .int t, .ref (h 40), .int 0, .ref (h 80), .int 0, .int 0])), ((h 39), .inl ((cs 13), 200, .inl g))] H → va_D A [((h 0), .inr (11, [.ref (h 1), .ref (h 9), .int 0, .int 0, .ref (h 20), .ref (h 37), .int 0, .ref (h 38), .ref (h 42), .ref (h 43), .ref (h 44), .ref (h 45), .ref (h 46), .ref (h 47), .ref (h 48)])), ((h 38), .inr (10, [.ref (h 39), .int t, .ref (h 40), .int 0, .ref (h 80), .int 0, .int 0])), ((h 39), .inl ((cs 13), 200, .inl g))] → va_S A s.heap H locs → lv_has ls 6 [(4, .int 40), (3, .int (zN p0 8)), (0, .ref (h 0)), (1, .long p0)] → W p l e (headSpec (.code yX11_type cX11_type 6 (some .int) :: zT) ({ frames := 1, cells := 0, slots := 0, locals := 21 })).room s m (([.ref (h 0), .long p0] : List Value)).toArray below meth c H locs 0 0 (vx_MQ below (va_Qi (fun (r : Int32) (_ : Unit) => r = zN p0 8) (fun _ t => zE D [] [] A t) A) (vx_X (fun _ : Unit => True) (fun E _ _ => False) A) (([.ref (h 0), .long p0] : List Value)).toArray s 0 0 A) (F0 m 98 ls []) := by
                                                  intro t g_902 H locs ls et hP hD hS hl
                                                  subst et
                                                  refine lv_iinc (v := 32) (lv' := [(4, .int 32), (3, .int (zN p0 8)), (0, .ref (h 0)), (1, .long p0)]) hx hb dX11_type_98 hl (k := 0) rfl (by decide) (by decide) rfl (fun ls hl => ?_)
                                                  refine lv_goto (tgt := 68) hx hb dX11_type_101 (by decide) ?_
                                                  refine lv_iload hx hb dX11_type_68 (lv_at hl 0 rfl) ?_
                                                  refine lv_if_lt (tgt := 104) hx hb dX11_type_70 (by decide) (fun c_34 => ?_) (fun c_34 => ?_)
                                                  · skip
                                                    exact absurd c_34 (by decide)
                                                  · skip
                                                    have hP : va_P D vwCl [((h 0), .inr (11, [.ref (h 1), .ref (h 9), .int 0, .int 0, .ref (h 20), .ref (h 37), .int 0, .ref (h 38), .ref (h 42), .ref (h 43), .ref (h 44), .ref (h 45), .ref (h 46), .ref (h 47), .ref (h 48)])), ((h 38), .inr (10, [.ref (h 39), .int (zN p0 3), .ref (h 40), .int 0, .ref (h 80), .int 0, .int 0])), ((h 39), .inl ((cs 13), 200, .inl g_902))] H := hP
                                                    have hD : va_D A [((h 0), .inr (11, [.ref (h 1), .ref (h 9), .int 0, .int 0, .ref (h 20), .ref (h 37), .int 0, .ref (h 38), .ref (h 42), .ref (h 43), .ref (h 44), .ref (h 45), .ref (h 46), .ref (h 47), .ref (h 48)])), ((h 38), .inr (10, [.ref (h 39), .int (zN p0 3), .ref (h 40), .int 0, .ref (h 80), .int 0, .int 0])), ((h 39), .inl ((cs 13), 200, .inl g_902))] := hD
                                                    have hk_3 : ∀ (t : Int32) (g : Nat → Int32) (H : Heap) (locs : List Loc) (ls : Array Slot), t = zN p0 4 → va_P D vwCl [((h 0), .inr (11, [.ref (h 1), .ref (h 9), .int 0, .int 0, .ref (h 20), .ref (h 37), .int 0, .ref (h 38), .ref (h 42), .ref (h 43), .ref (h 44), .ref (h 45), .ref (h 46), .ref (h 47), .ref (h 48)])), ((h 38), .inr (10, [.ref (h 39), .int t, .ref (h 40), .int 0, .ref (h 80), .int 0, .int 0])), ((h 39), .inl ((cs 13), 200, .inl g))] H → va_D A [((h 0), .inr (11, [.ref (h 1), .ref (h 9), .int 0, .int 0, .ref (h 20), .ref (h 37), .int 0, .ref (h 38), .ref (h 42), .ref (h 43), .ref (h 44), .ref (h 45), .ref (h 46), .ref (h 47), .ref (h 48)])), ((h 38), .inr (10, [.ref (h 39), .int t, .ref (h 40), .int 0, .ref (h 80), .int 0, .int 0])), ((h 39), .inl ((cs 13), 200, .inl g))] → va_S A s.heap H locs → lv_has ls 6 [(4, .int 32), (3, .int (zN p0 8)), (0, .ref (h 0)), (1, .long p0)] → W p l e (headSpec (.code yX11_type cX11_type 6 (some .int) :: zT) ({ frames := 1, cells := 0, slots := 0, locals := 21 })).room s m (([.ref (h 0), .long p0] : List Value)).toArray below meth c H locs 0 0 (vx_MQ below (va_Qi (fun (r : Int32) (_ : Unit) => r = zN p0 8) (fun _ t => zE D [] [] A t) A) (vx_X (fun _ : Unit => True) (fun E _ _ => False) A) (([.ref (h 0), .long p0] : List Value)).toArray s 0 0 A) (F0 m 98 ls []) := by
                                                      intro t g_903 H locs ls et hP hD hS hl
                                                      subst et
                                                      refine lv_iinc (v := 24) (lv' := [(4, .int 24), (3, .int (zN p0 8)), (0, .ref (h 0)), (1, .long p0)]) hx hb dX11_type_98 hl (k := 0) rfl (by decide) (by decide) rfl (fun ls hl => ?_)
                                                      refine lv_goto (tgt := 68) hx hb dX11_type_101 (by decide) ?_
                                                      refine lv_iload hx hb dX11_type_68 (lv_at hl 0 rfl) ?_
                                                      refine lv_if_lt (tgt := 104) hx hb dX11_type_70 (by decide) (fun c_36 => ?_) (fun c_36 => ?_)
                                                      · skip
                                                        exact absurd c_36 (by decide)
                                                      · skip
                                                        have hP : va_P D vwCl [((h 0), .inr (11, [.ref (h 1), .ref (h 9), .int 0, .int 0, .ref (h 20), .ref (h 37), .int 0, .ref (h 38), .ref (h 42), .ref (h 43), .ref (h 44), .ref (h 45), .ref (h 46), .ref (h 47), .ref (h 48)])), ((h 38), .inr (10, [.ref (h 39), .int (zN p0 4), .ref (h 40), .int 0, .ref (h 80), .int 0, .int 0])), ((h 39), .inl ((cs 13), 200, .inl g_903))] H := hP
                                                        have hD : va_D A [((h 0), .inr (11, [.ref (h 1), .ref (h 9), .int 0, .int 0, .ref (h 20), .ref (h 37), .int 0, .ref (h 38), .ref (h 42), .ref (h 43), .ref (h 44), .ref (h 45), .ref (h 46), .ref (h 47), .ref (h 48)])), ((h 38), .inr (10, [.ref (h 39), .int (zN p0 4), .ref (h 40), .int 0, .ref (h 80), .int 0, .int 0])), ((h 39), .inl ((cs 13), 200, .inl g_903))] := hD
                                                        have hk_4 : ∀ (t : Int32) (g : Nat → Int32) (H : Heap) (locs : List Loc) (ls : Array Slot), t = zN p0 5 → va_P D vwCl [((h 0), .inr (11, [.ref (h 1), .ref (h 9), .int 0, .int 0, .ref (h 20), .ref (h 37), .int 0, .ref (h 38), .ref (h 42), .ref (h 43), .ref (h 44), .ref (h 45), .ref (h 46), .ref (h 47), .ref (h 48)])), ((h 38), .inr (10, [.ref (h 39), .int t, .ref (h 40), .int 0, .ref (h 80), .int 0, .int 0])), ((h 39), .inl ((cs 13), 200, .inl g))] H → va_D A [((h 0), .inr (11, [.ref (h 1), .ref (h 9), .int 0, .int 0, .ref (h 20), .ref (h 37), .int 0, .ref (h 38), .ref (h 42), .ref (h 43), .ref (h 44), .ref (h 45), .ref (h 46), .ref (h 47), .ref (h 48)])), ((h 38), .inr (10, [.ref (h 39), .int t, .ref (h 40), .int 0, .ref (h 80), .int 0, .int 0])), ((h 39), .inl ((cs 13), 200, .inl g))] → va_S A s.heap H locs → lv_has ls 6 [(4, .int 24), (3, .int (zN p0 8)), (0, .ref (h 0)), (1, .long p0)] → W p l e (headSpec (.code yX11_type cX11_type 6 (some .int) :: zT) ({ frames := 1, cells := 0, slots := 0, locals := 21 })).room s m (([.ref (h 0), .long p0] : List Value)).toArray below meth c H locs 0 0 (vx_MQ below (va_Qi (fun (r : Int32) (_ : Unit) => r = zN p0 8) (fun _ t => zE D [] [] A t) A) (vx_X (fun _ : Unit => True) (fun E _ _ => False) A) (([.ref (h 0), .long p0] : List Value)).toArray s 0 0 A) (F0 m 98 ls []) := by
                                                          intro t g_904 H locs ls et hP hD hS hl
                                                          subst et
                                                          refine lv_iinc (v := 16) (lv' := [(4, .int 16), (3, .int (zN p0 8)), (0, .ref (h 0)), (1, .long p0)]) hx hb dX11_type_98 hl (k := 0) rfl (by decide) (by decide) rfl (fun ls hl => ?_)
                                                          refine lv_goto (tgt := 68) hx hb dX11_type_101 (by decide) ?_
                                                          refine lv_iload hx hb dX11_type_68 (lv_at hl 0 rfl) ?_
                                                          refine lv_if_lt (tgt := 104) hx hb dX11_type_70 (by decide) (fun c_38 => ?_) (fun c_38 => ?_)
                                                          · skip
                                                            exact absurd c_38 (by decide)
                                                          · skip
                                                            have hP : va_P D vwCl [((h 0), .inr (11, [.ref (h 1), .ref (h 9), .int 0, .int 0, .ref (h 20), .ref (h 37), .int 0, .ref (h 38), .ref (h 42), .ref (h 43), .ref (h 44), .ref (h 45), .ref (h 46), .ref (h 47), .ref (h 48)])), ((h 38), .inr (10, [.ref (h 39), .int (zN p0 5), .ref (h 40), .int 0, .ref (h 80), .int 0, .int 0])), ((h 39), .inl ((cs 13), 200, .inl g_904))] H := hP
                                                            have hD : va_D A [((h 0), .inr (11, [.ref (h 1), .ref (h 9), .int 0, .int 0, .ref (h 20), .ref (h 37), .int 0, .ref (h 38), .ref (h 42), .ref (h 43), .ref (h 44), .ref (h 45), .ref (h 46), .ref (h 47), .ref (h 48)])), ((h 38), .inr (10, [.ref (h 39), .int (zN p0 5), .ref (h 40), .int 0, .ref (h 80), .int 0, .int 0])), ((h 39), .inl ((cs 13), 200, .inl g_904))] := hD
                                                            have hk_5 : ∀ (t : Int32) (g : Nat → Int32) (H : Heap) (locs : List Loc) (ls : Array Slot), t = zN p0 6 → va_P D vwCl [((h 0), .inr (11, [.ref (h 1), .ref (h 9), .int 0, .int 0, .ref (h 20), .ref (h 37), .int 0, .ref (h 38), .ref (h 42), .ref (h 43), .ref (h 44), .ref (h 45), .ref (h 46), .ref (h 47), .ref (h 48)])), ((h 38), .inr (10, [.ref (h 39), .int t, .ref (h 40), .int 0, .ref (h 80), .int 0, .int 0])), ((h 39), .inl ((cs 13), 200, .inl g))] H → va_D A [((h 0), .inr (11, [.ref (h 1), .ref (h 9), .int 0, .int 0, .ref (h 20), .ref (h 37), .int 0, .ref (h 38), .ref (h 42), .ref (h 43), .ref (h 44), .ref (h 45), .ref (h 46), .ref (h 47), .ref (h 48)])), ((h 38), .inr (10, [.ref (h 39), .int t, .ref (h 40), .int 0, .ref (h 80), .int 0, .int 0])), ((h 39), .inl ((cs 13), 200, .inl g))] → va_S A s.heap H locs → lv_has ls 6 [(4, .int 16), (3, .int (zN p0 8)), (0, .ref (h 0)), (1, .long p0)] → W p l e (headSpec (.code yX11_type cX11_type 6 (some .int) :: zT) ({ frames := 1, cells := 0, slots := 0, locals := 21 })).room s m (([.ref (h 0), .long p0] : List Value)).toArray below meth c H locs 0 0 (vx_MQ below (va_Qi (fun (r : Int32) (_ : Unit) => r = zN p0 8) (fun _ t => zE D [] [] A t) A) (vx_X (fun _ : Unit => True) (fun E _ _ => False) A) (([.ref (h 0), .long p0] : List Value)).toArray s 0 0 A) (F0 m 98 ls []) := by
                                                              intro t g_905 H locs ls et hP hD hS hl
                                                              subst et
                                                              refine lv_iinc (v := 8) (lv' := [(4, .int 8), (3, .int (zN p0 8)), (0, .ref (h 0)), (1, .long p0)]) hx hb dX11_type_98 hl (k := 0) rfl (by decide) (by decide) rfl (fun ls hl => ?_)
                                                              refine lv_goto (tgt := 68) hx hb dX11_type_101 (by decide) ?_
                                                              refine lv_iload hx hb dX11_type_68 (lv_at hl 0 rfl) ?_
                                                              refine lv_if_lt (tgt := 104) hx hb dX11_type_70 (by decide) (fun c_40 => ?_) (fun c_40 => ?_)
                                                              · skip
                                                                exact absurd c_40 (by decide)
                                                              · skip
                                                                have hP : va_P D vwCl [((h 0), .inr (11, [.ref (h 1), .ref (h 9), .int 0, .int 0, .ref (h 20), .ref (h 37), .int 0, .ref (h 38), .ref (h 42), .ref (h 43), .ref (h 44), .ref (h 45), .ref (h 46), .ref (h 47), .ref (h 48)])), ((h 38), .inr (10, [.ref (h 39), .int (zN p0 6), .ref (h 40), .int 0, .ref (h 80), .int 0, .int 0])), ((h 39), .inl ((cs 13), 200, .inl g_905))] H := hP
                                                                have hD : va_D A [((h 0), .inr (11, [.ref (h 1), .ref (h 9), .int 0, .int 0, .ref (h 20), .ref (h 37), .int 0, .ref (h 38), .ref (h 42), .ref (h 43), .ref (h 44), .ref (h 45), .ref (h 46), .ref (h 47), .ref (h 48)])), ((h 38), .inr (10, [.ref (h 39), .int (zN p0 6), .ref (h 40), .int 0, .ref (h 80), .int 0, .int 0])), ((h 39), .inl ((cs 13), 200, .inl g_905))] := hD
                                                                have hk_6 : ∀ (t : Int32) (g : Nat → Int32) (H : Heap) (locs : List Loc) (ls : Array Slot), t = zN p0 7 → va_P D vwCl [((h 0), .inr (11, [.ref (h 1), .ref (h 9), .int 0, .int 0, .ref (h 20), .ref (h 37), .int 0, .ref (h 38), .ref (h 42), .ref (h 43), .ref (h 44), .ref (h 45), .ref (h 46), .ref (h 47), .ref (h 48)])), ((h 38), .inr (10, [.ref (h 39), .int t, .ref (h 40), .int 0, .ref (h 80), .int 0, .int 0])), ((h 39), .inl ((cs 13), 200, .inl g))] H → va_D A [((h 0), .inr (11, [.ref (h 1), .ref (h 9), .int 0, .int 0, .ref (h 20), .ref (h 37), .int 0, .ref (h 38), .ref (h 42), .ref (h 43), .ref (h 44), .ref (h 45), .ref (h 46), .ref (h 47), .ref (h 48)])), ((h 38), .inr (10, [.ref (h 39), .int t, .ref (h 40), .int 0, .ref (h 80), .int 0, .int 0])), ((h 39), .inl ((cs 13), 200, .inl g))] → va_S A s.heap H locs → lv_has ls 6 [(4, .int 8), (3, .int (zN p0 8)), (0, .ref (h 0)), (1, .long p0)] → W p l e (headSpec (.code yX11_type cX11_type 6 (some .int) :: zT) ({ frames := 1, cells := 0, slots := 0, locals := 21 })).room s m (([.ref (h 0), .long p0] : List Value)).toArray below meth c H locs 0 0 (vx_MQ below (va_Qi (fun (r : Int32) (_ : Unit) => r = zN p0 8) (fun _ t => zE D [] [] A t) A) (vx_X (fun _ : Unit => True) (fun E _ _ => False) A) (([.ref (h 0), .long p0] : List Value)).toArray s 0 0 A) (F0 m 98 ls []) := by
                                                                  intro t g_906 H locs ls et hP hD hS hl
                                                                  subst et
                                                                  refine lv_iinc (v := 0) (lv' := [(4, .int 0), (3, .int (zN p0 8)), (0, .ref (h 0)), (1, .long p0)]) hx hb dX11_type_98 hl (k := 0) rfl (by decide) (by decide) rfl (fun ls hl => ?_)
                                                                  refine lv_goto (tgt := 68) hx hb dX11_type_101 (by decide) ?_
                                                                  refine lv_iload hx hb dX11_type_68 (lv_at hl 0 rfl) ?_
                                                                  refine lv_if_lt (tgt := 104) hx hb dX11_type_70 (by decide) (fun c_42 => ?_) (fun c_42 => ?_)
                                                                  · skip
                                                                    exact absurd c_42 (by decide)
                                                                  · skip
                                                                    have hP : va_P D vwCl [((h 0), .inr (11, [.ref (h 1), .ref (h 9), .int 0, .int 0, .ref (h 20), .ref (h 37), .int 0, .ref (h 38), .ref (h 42), .ref (h 43), .ref (h 44), .ref (h 45), .ref (h 46), .ref (h 47), .ref (h 48)])), ((h 38), .inr (10, [.ref (h 39), .int (zN p0 7), .ref (h 40), .int 0, .ref (h 80), .int 0, .int 0])), ((h 39), .inl ((cs 13), 200, .inl g_906))] H := hP
                                                                    have hD : va_D A [((h 0), .inr (11, [.ref (h 1), .ref (h 9), .int 0, .int 0, .ref (h 20), .ref (h 37), .int 0, .ref (h 38), .ref (h 42), .ref (h 43), .ref (h 44), .ref (h 45), .ref (h 46), .ref (h 47), .ref (h 48)])), ((h 38), .inr (10, [.ref (h 39), .int (zN p0 7), .ref (h 40), .int 0, .ref (h 80), .int 0, .int 0])), ((h 39), .inl ((cs 13), 200, .inl g_906))] := hD
                                                                    have hk_7 : ∀ (t : Int32) (g : Nat → Int32) (H : Heap) (locs : List Loc) (ls : Array Slot), t = zN p0 8 → va_P D vwCl [((h 0), .inr (11, [.ref (h 1), .ref (h 9), .int 0, .int 0, .ref (h 20), .ref (h 37), .int 0, .ref (h 38), .ref (h 42), .ref (h 43), .ref (h 44), .ref (h 45), .ref (h 46), .ref (h 47), .ref (h 48)])), ((h 38), .inr (10, [.ref (h 39), .int t, .ref (h 40), .int 0, .ref (h 80), .int 0, .int 0])), ((h 39), .inl ((cs 13), 200, .inl g))] H → va_D A [((h 0), .inr (11, [.ref (h 1), .ref (h 9), .int 0, .int 0, .ref (h 20), .ref (h 37), .int 0, .ref (h 38), .ref (h 42), .ref (h 43), .ref (h 44), .ref (h 45), .ref (h 46), .ref (h 47), .ref (h 48)])), ((h 38), .inr (10, [.ref (h 39), .int t, .ref (h 40), .int 0, .ref (h 80), .int 0, .int 0])), ((h 39), .inl ((cs 13), 200, .inl g))] → va_S A s.heap H locs → lv_has ls 6 [(4, .int 0), (3, .int (zN p0 8)), (0, .ref (h 0)), (1, .long p0)] → W p l e (headSpec (.code yX11_type cX11_type 6 (some .int) :: zT) ({ frames := 1, cells := 0, slots := 0, locals := 21 })).room s m (([.ref (h 0), .long p0] : List Value)).toArray below meth c H locs 0 0 (vx_MQ below (va_Qi (fun (r : Int32) (_ : Unit) => r = zN p0 8) (fun _ t => zE D [] [] A t) A) (vx_X (fun _ : Unit => True) (fun E _ _ => False) A) (([.ref (h 0), .long p0] : List Value)).toArray s 0 0 A) (F0 m 98 ls []) := by
                                                                      intro t g_907 H locs ls et hP hD hS hl
                                                                      subst et
                                                                      refine lv_iinc (v := (-8)) (lv' := [(4, .int (-8)), (3, .int (zN p0 8)), (0, .ref (h 0)), (1, .long p0)]) hx hb dX11_type_98 hl (k := 0) rfl (by decide) (by decide) rfl (fun ls hl => ?_)
                                                                      refine lv_goto (tgt := 68) hx hb dX11_type_101 (by decide) ?_
                                                                      refine lv_iload hx hb dX11_type_68 (lv_at hl 0 rfl) ?_
                                                                      refine lv_if_lt (tgt := 104) hx hb dX11_type_70 (by decide) (fun c_44 => ?_) (fun c_44 => ?_)
                                                                      · skip
                                                                        refine lv_aload_n hx hb dX11_type_104 rfl (lv_at hl 2 rfl) ?_
                                                                        refine va_get (D := D) (ci := 11) (v := .ref (h 38)) (C := RX11) (T := TX11) (N := 15) hx hb ht zinX11 hown hK hP 0 rfl rfl 7 (by decide) (ht _ zw_367) (fun _ h9 => h9) rfl dX11_type_105 ?_
                                                                        refine va_get (D := D) (ci := 10) (v := .int (zN p0 8)) (C := RX10) (T := TX10) (N := 7) hx hb ht zinX10 hown hK hP 1 rfl rfl 1 (by decide) (ht _ zw_442) (fun _ h9 => h9) rfl dX11_type_108 ?_
                                                                        have hP9 := hP.sub (ws' := []) [] rfl
                                                                        have hD9 := hD.sub (ws' := []) [] (by decide) rfl
                                                                        have hK9 := hK.sub (tys' := []) [] rfl
                                                                        refine W.widen (k := 0) (n := 0) (Nat.le_of_ble_eq_true rfl) (Nat.le_of_ble_eq_true rfl) ?_
                                                                        refine vx_ret ?_
                                                                        exact W.iret (v := (zN p0 8)) hx hb hr (fun t ht0 hW => ⟨⟨(zN p0 8), (), rfl, rfl, (zE_of hP9 hK9 hD9 ht0 hW)⟩, hS.F ht0⟩) hS.2.2 dX11_type_111
                                                                      · skip
                                                                        exact absurd c_44 (by decide)
                                                                    refine lv_lload_n hx hb dX11_type_73 rfl (lv_at hl 3 rfl) ?_
                                                                    refine lv_iload hx hb dX11_type_74 (lv_at hl 0 rfl) ?_
                                                                    refine lv_lushr (v := ((p0).toUInt64 >>> ((0 : Int32).toInt64.toUInt64 &&& Int64.toUInt64 63)).toInt64) hx hb dX11_type_76 rfl ?_
                                                                    refine lv_ldc2 (v := 255) hx hb hown (ht _ zw_544) dX11_type_77 ?_
                                                                    refine lv_land hx hb dX11_type_80 ?_
                                                                    refine lv_l2i (v := ((((p0).toUInt64 >>> ((0 : Int32).toInt64.toUInt64 &&& Int64.toUInt64 63)).toInt64) &&& 255).toInt32) hx hb dX11_type_81 rfl ?_
                                                                    refine lv_istore (lv' := [(5, .int (((((p0).toUInt64 >>> ((0 : Int32).toInt64.toUInt64 &&& Int64.toUInt64 63)).toInt64) &&& 255).toInt32)), (4, .int 0), (3, .int (zN p0 8)), (0, .ref (h 0)), (1, .long p0)]) hx hb dX11_type_82 hl (by decide) rfl (fun ls hl => ?_)
                                                                    refine lv_iload hx hb dX11_type_84 (lv_at hl 0 rfl) ?_
                                                                    refine lv_if_eq (tgt := 98) hx hb dX11_type_86 (by decide) (fun c_45 => ?_) (fun c_45 => ?_)
                                                                    · skip
                                                                      exact hk_7 _ g_906 _ _ ls (by show zN p0 7 = zN p0 7 + zC p0 0; unfold zC; rw [if_pos (show zB p0 0 = 0 from (zB_32 _ _).mp c_45), Int32.add_zero]) hP hD hS (lv_sub hl [1, 2, 3, 4] rfl)
                                                                    · skip
                                                                      refine lv_aload_n hx hb dX11_type_89 rfl (lv_at hl 3 rfl) ?_
                                                                      refine va_get (D := D) (ci := 11) (v := .ref (h 38)) (C := RX11) (T := TX11) (N := 15) hx hb ht zinX11 hown hK hP 0 rfl rfl 7 (by decide) (ht _ zw_367) (fun _ h9 => h9) rfl dX11_type_90 ?_
                                                                      refine lv_iload hx hb dX11_type_93 (lv_at hl 0 rfl) ?_
                                                                      have hPc := hP.sub (ws' := [((h 38), .inr (10, [.ref (h 39), .int (zN p0 7), .ref (h 40), .int 0, .ref (h 80), .int 0, .int 0])), ((h 39), .inl ((cs 13), 200, .inl g_906))]) [1, 2] rfl
                                                                      have hDc := hD.sub (ws' := [((h 38), .inr (10, [.ref (h 39), .int (zN p0 7), .ref (h 40), .int 0, .ref (h 80), .int 0, .int 0])), ((h 39), .inl ((cs 13), 200, .inl g_906))]) [1, 2] (by decide) rfl
                                                                      have hKc := hK.sub (tys' := [((cs 13), .int)]) [0] rfl
                                                                      have hFc := va_free (wc := [((h 38), .inr (10, [.ref (h 39), .int (zN p0 7), .ref (h 40), .int 0, .ref (h 80), .int 0, .int 0])), ((h 39), .inl ((cs 13), 200, .inl g_906))]) hD hS hA [1, 2] rfl
                                                                      refine va_callv (va_runV (As := [.int (((((p0).toUInt64 >>> ((0 : Int32).toInt64.toUInt64 &&& Int64.toUInt64 63)).toInt64) &&& 255).toInt32)]) (rest := []) ⟨hx, hb, hml, hown, ht⟩ (k_X10_add l _ D h cs (zN p0 7) (((((p0).toUInt64 >>> ((0 : Int32).toInt64.toUInt64 &&& Int64.toUInt64 63)).toInt64) &&& 255).toInt32) g_906 (by have hz := zN_le p0 7 (by decide); exact ⟨hz.1, by omega⟩)) (cwV 1 ht (zG_V zw_545 zw_546 zw_547 zw_363 zw_548) rfl rfl rfl (by decide +kernel) ⟨Nat.le_of_ble_eq_true rfl, Nat.le_of_ble_eq_true rfl⟩) (zM_V (va_recv hK hP (ci := 10) (q0 := 1) rfl rfl) hPc hKc hDc) rfl rfl hl.1 rfl (lv_room (Nat.le_of_ble_eq_true rfl)) dX11_type_95 ⟨Nat.le_of_ble_eq_true rfl, Nat.le_of_ble_eq_true rfl⟩) hS (fun q _ h => hFc q h) hFc (fun u_46 t H1 locs ht0 hvm hw_46 hB hz1 hk1 hS => ?_)
                                                                      obtain ⟨g_46, hB⟩ := hB
                                                                      obtain ⟨hP1, hK1, hD1⟩ := hB
                                                                      rw [ht0] at hP1
                                                                      have hK1 := va_K.moved hvm.symm hK1
                                                                      obtain ⟨hP, hD⟩ := va_join (wr := [((h 0), .inr (11, [.ref (h 1), .ref (h 9), .int 0, .int 0, .ref (h 20), .ref (h 37), .int 0, .ref (h 38), .ref (h 42), .ref (h 43), .ref (h 44), .ref (h 45), .ref (h 46), .ref (h 47), .ref (h 48)]))]) (w1 := [((h 38), .inr (10, [.ref (h 39), .int ((zN p0 7) + 1), .ref (h 40), .int 0, .ref (h 80), .int 0, .int 0])), ((h 39), .inl ((cs 13), 200, .inl g_46))]) hP hD [1, 2] [0] rfl rfl (by decide) (by decide) hk1 hFc hP1 hD1
                                                                      generalize H1 = H at hP hS ⊢
                                                                      have hP : va_P D vwCl [((h 0), .inr (11, [.ref (h 1), .ref (h 9), .int 0, .int 0, .ref (h 20), .ref (h 37), .int 0, .ref (h 38), .ref (h 42), .ref (h 43), .ref (h 44), .ref (h 45), .ref (h 46), .ref (h 47), .ref (h 48)])), ((h 38), .inr (10, [.ref (h 39), .int ((zN p0 7) + 1), .ref (h 40), .int 0, .ref (h 80), .int 0, .int 0])), ((h 39), .inl ((cs 13), 200, .inl g_46))] H := hP
                                                                      have hD : va_D A [((h 0), .inr (11, [.ref (h 1), .ref (h 9), .int 0, .int 0, .ref (h 20), .ref (h 37), .int 0, .ref (h 38), .ref (h 42), .ref (h 43), .ref (h 44), .ref (h 45), .ref (h 46), .ref (h 47), .ref (h 48)])), ((h 38), .inr (10, [.ref (h 39), .int ((zN p0 7) + 1), .ref (h 40), .int 0, .ref (h 80), .int 0, .int 0])), ((h 39), .inl ((cs 13), 200, .inl g_46))] := hD
                                                                      exact hk_7 _ g_46 _ _ ls (by show zN p0 7 + 1 = zN p0 7 + zC p0 0; unfold zC; rw [if_neg (show ¬ zB p0 0 = 0 from fun q => c_45 ((zB_32 _ _).mpr q))]) hP hD hS (lv_sub hl [1, 2, 3, 4] rfl)
                                                                refine lv_lload_n hx hb dX11_type_73 rfl (lv_at hl 3 rfl) ?_
                                                                refine lv_iload hx hb dX11_type_74 (lv_at hl 0 rfl) ?_
                                                                refine lv_lushr (v := ((p0).toUInt64 >>> ((8 : Int32).toInt64.toUInt64 &&& Int64.toUInt64 63)).toInt64) hx hb dX11_type_76 rfl ?_
                                                                refine lv_ldc2 (v := 255) hx hb hown (ht _ zw_544) dX11_type_77 ?_
                                                                refine lv_land hx hb dX11_type_80 ?_
                                                                refine lv_l2i (v := ((((p0).toUInt64 >>> ((8 : Int32).toInt64.toUInt64 &&& Int64.toUInt64 63)).toInt64) &&& 255).toInt32) hx hb dX11_type_81 rfl ?_
                                                                refine lv_istore (lv' := [(5, .int (((((p0).toUInt64 >>> ((8 : Int32).toInt64.toUInt64 &&& Int64.toUInt64 63)).toInt64) &&& 255).toInt32)), (4, .int 8), (3, .int (zN p0 8)), (0, .ref (h 0)), (1, .long p0)]) hx hb dX11_type_82 hl (by decide) rfl (fun ls hl => ?_)
                                                                refine lv_iload hx hb dX11_type_84 (lv_at hl 0 rfl) ?_
                                                                refine lv_if_eq (tgt := 98) hx hb dX11_type_86 (by decide) (fun c_47 => ?_) (fun c_47 => ?_)
                                                                · skip
                                                                  exact hk_6 _ g_905 _ _ ls (by show zN p0 6 = zN p0 6 + zC p0 8; unfold zC; rw [if_pos (show zB p0 8 = 0 from (zB_32 _ _).mp c_47), Int32.add_zero]) hP hD hS (lv_sub hl [1, 2, 3, 4] rfl)
                                                                · skip
                                                                  refine lv_aload_n hx hb dX11_type_89 rfl (lv_at hl 3 rfl) ?_
                                                                  refine va_get (D := D) (ci := 11) (v := .ref (h 38)) (C := RX11) (T := TX11) (N := 15) hx hb ht zinX11 hown hK hP 0 rfl rfl 7 (by decide) (ht _ zw_367) (fun _ h9 => h9) rfl dX11_type_90 ?_
                                                                  refine lv_iload hx hb dX11_type_93 (lv_at hl 0 rfl) ?_
                                                                  have hPc := hP.sub (ws' := [((h 38), .inr (10, [.ref (h 39), .int (zN p0 6), .ref (h 40), .int 0, .ref (h 80), .int 0, .int 0])), ((h 39), .inl ((cs 13), 200, .inl g_905))]) [1, 2] rfl
                                                                  have hDc := hD.sub (ws' := [((h 38), .inr (10, [.ref (h 39), .int (zN p0 6), .ref (h 40), .int 0, .ref (h 80), .int 0, .int 0])), ((h 39), .inl ((cs 13), 200, .inl g_905))]) [1, 2] (by decide) rfl
                                                                  have hKc := hK.sub (tys' := [((cs 13), .int)]) [0] rfl
                                                                  have hFc := va_free (wc := [((h 38), .inr (10, [.ref (h 39), .int (zN p0 6), .ref (h 40), .int 0, .ref (h 80), .int 0, .int 0])), ((h 39), .inl ((cs 13), 200, .inl g_905))]) hD hS hA [1, 2] rfl
                                                                  refine va_callv (va_runV (As := [.int (((((p0).toUInt64 >>> ((8 : Int32).toInt64.toUInt64 &&& Int64.toUInt64 63)).toInt64) &&& 255).toInt32)]) (rest := []) ⟨hx, hb, hml, hown, ht⟩ (k_X10_add l _ D h cs (zN p0 6) (((((p0).toUInt64 >>> ((8 : Int32).toInt64.toUInt64 &&& Int64.toUInt64 63)).toInt64) &&& 255).toInt32) g_905 (by have hz := zN_le p0 6 (by decide); exact ⟨hz.1, by omega⟩)) (cwV 1 ht (zG_V zw_545 zw_546 zw_547 zw_363 zw_548) rfl rfl rfl (by decide +kernel) ⟨Nat.le_of_ble_eq_true rfl, Nat.le_of_ble_eq_true rfl⟩) (zM_V (va_recv hK hP (ci := 10) (q0 := 1) rfl rfl) hPc hKc hDc) rfl rfl hl.1 rfl (lv_room (Nat.le_of_ble_eq_true rfl)) dX11_type_95 ⟨Nat.le_of_ble_eq_true rfl, Nat.le_of_ble_eq_true rfl⟩) hS (fun q _ h => hFc q h) hFc (fun u_48 t H1 locs ht0 hvm hw_48 hB hz1 hk1 hS => ?_)
                                                                  obtain ⟨g_48, hB⟩ := hB
                                                                  obtain ⟨hP1, hK1, hD1⟩ := hB
                                                                  rw [ht0] at hP1
                                                                  have hK1 := va_K.moved hvm.symm hK1
                                                                  obtain ⟨hP, hD⟩ := va_join (wr := [((h 0), .inr (11, [.ref (h 1), .ref (h 9), .int 0, .int 0, .ref (h 20), .ref (h 37), .int 0, .ref (h 38), .ref (h 42), .ref (h 43), .ref (h 44), .ref (h 45), .ref (h 46), .ref (h 47), .ref (h 48)]))]) (w1 := [((h 38), .inr (10, [.ref (h 39), .int ((zN p0 6) + 1), .ref (h 40), .int 0, .ref (h 80), .int 0, .int 0])), ((h 39), .inl ((cs 13), 200, .inl g_48))]) hP hD [1, 2] [0] rfl rfl (by decide) (by decide) hk1 hFc hP1 hD1
                                                                  generalize H1 = H at hP hS ⊢
                                                                  have hP : va_P D vwCl [((h 0), .inr (11, [.ref (h 1), .ref (h 9), .int 0, .int 0, .ref (h 20), .ref (h 37), .int 0, .ref (h 38), .ref (h 42), .ref (h 43), .ref (h 44), .ref (h 45), .ref (h 46), .ref (h 47), .ref (h 48)])), ((h 38), .inr (10, [.ref (h 39), .int ((zN p0 6) + 1), .ref (h 40), .int 0, .ref (h 80), .int 0, .int 0])), ((h 39), .inl ((cs 13), 200, .inl g_48))] H := hP
                                                                  have hD : va_D A [((h 0), .inr (11, [.ref (h 1), .ref (h 9), .int 0, .int 0, .ref (h 20), .ref (h 37), .int 0, .ref (h 38), .ref (h 42), .ref (h 43), .ref (h 44), .ref (h 45), .ref (h 46), .ref (h 47), .ref (h 48)])), ((h 38), .inr (10, [.ref (h 39), .int ((zN p0 6) + 1), .ref (h 40), .int 0, .ref (h 80), .int 0, .int 0])), ((h 39), .inl ((cs 13), 200, .inl g_48))] := hD
                                                                  exact hk_6 _ g_48 _ _ ls (by show zN p0 6 + 1 = zN p0 6 + zC p0 8; unfold zC; rw [if_neg (show ¬ zB p0 8 = 0 from fun q => c_47 ((zB_32 _ _).mpr q))]) hP hD hS (lv_sub hl [1, 2, 3, 4] rfl)
                                                            refine lv_lload_n hx hb dX11_type_73 rfl (lv_at hl 3 rfl) ?_
                                                            refine lv_iload hx hb dX11_type_74 (lv_at hl 0 rfl) ?_
                                                            refine lv_lushr (v := ((p0).toUInt64 >>> ((16 : Int32).toInt64.toUInt64 &&& Int64.toUInt64 63)).toInt64) hx hb dX11_type_76 rfl ?_
                                                            refine lv_ldc2 (v := 255) hx hb hown (ht _ zw_544) dX11_type_77 ?_
                                                            refine lv_land hx hb dX11_type_80 ?_
                                                            refine lv_l2i (v := ((((p0).toUInt64 >>> ((16 : Int32).toInt64.toUInt64 &&& Int64.toUInt64 63)).toInt64) &&& 255).toInt32) hx hb dX11_type_81 rfl ?_
                                                            refine lv_istore (lv' := [(5, .int (((((p0).toUInt64 >>> ((16 : Int32).toInt64.toUInt64 &&& Int64.toUInt64 63)).toInt64) &&& 255).toInt32)), (4, .int 16), (3, .int (zN p0 8)), (0, .ref (h 0)), (1, .long p0)]) hx hb dX11_type_82 hl (by decide) rfl (fun ls hl => ?_)
                                                            refine lv_iload hx hb dX11_type_84 (lv_at hl 0 rfl) ?_
                                                            refine lv_if_eq (tgt := 98) hx hb dX11_type_86 (by decide) (fun c_49 => ?_) (fun c_49 => ?_)
                                                            · skip
                                                              exact hk_5 _ g_904 _ _ ls (by show zN p0 5 = zN p0 5 + zC p0 16; unfold zC; rw [if_pos (show zB p0 16 = 0 from (zB_32 _ _).mp c_49), Int32.add_zero]) hP hD hS (lv_sub hl [1, 2, 3, 4] rfl)
                                                            · skip
                                                              refine lv_aload_n hx hb dX11_type_89 rfl (lv_at hl 3 rfl) ?_
                                                              refine va_get (D := D) (ci := 11) (v := .ref (h 38)) (C := RX11) (T := TX11) (N := 15) hx hb ht zinX11 hown hK hP 0 rfl rfl 7 (by decide) (ht _ zw_367) (fun _ h9 => h9) rfl dX11_type_90 ?_
                                                              refine lv_iload hx hb dX11_type_93 (lv_at hl 0 rfl) ?_
                                                              have hPc := hP.sub (ws' := [((h 38), .inr (10, [.ref (h 39), .int (zN p0 5), .ref (h 40), .int 0, .ref (h 80), .int 0, .int 0])), ((h 39), .inl ((cs 13), 200, .inl g_904))]) [1, 2] rfl
                                                              have hDc := hD.sub (ws' := [((h 38), .inr (10, [.ref (h 39), .int (zN p0 5), .ref (h 40), .int 0, .ref (h 80), .int 0, .int 0])), ((h 39), .inl ((cs 13), 200, .inl g_904))]) [1, 2] (by decide) rfl
                                                              have hKc := hK.sub (tys' := [((cs 13), .int)]) [0] rfl
                                                              have hFc := va_free (wc := [((h 38), .inr (10, [.ref (h 39), .int (zN p0 5), .ref (h 40), .int 0, .ref (h 80), .int 0, .int 0])), ((h 39), .inl ((cs 13), 200, .inl g_904))]) hD hS hA [1, 2] rfl
                                                              refine va_callv (va_runV (As := [.int (((((p0).toUInt64 >>> ((16 : Int32).toInt64.toUInt64 &&& Int64.toUInt64 63)).toInt64) &&& 255).toInt32)]) (rest := []) ⟨hx, hb, hml, hown, ht⟩ (k_X10_add l _ D h cs (zN p0 5) (((((p0).toUInt64 >>> ((16 : Int32).toInt64.toUInt64 &&& Int64.toUInt64 63)).toInt64) &&& 255).toInt32) g_904 (by have hz := zN_le p0 5 (by decide); exact ⟨hz.1, by omega⟩)) (cwV 1 ht (zG_V zw_545 zw_546 zw_547 zw_363 zw_548) rfl rfl rfl (by decide +kernel) ⟨Nat.le_of_ble_eq_true rfl, Nat.le_of_ble_eq_true rfl⟩) (zM_V (va_recv hK hP (ci := 10) (q0 := 1) rfl rfl) hPc hKc hDc) rfl rfl hl.1 rfl (lv_room (Nat.le_of_ble_eq_true rfl)) dX11_type_95 ⟨Nat.le_of_ble_eq_true rfl, Nat.le_of_ble_eq_true rfl⟩) hS (fun q _ h => hFc q h) hFc (fun u_50 t H1 locs ht0 hvm hw_50 hB hz1 hk1 hS => ?_)
                                                              obtain ⟨g_50, hB⟩ := hB
                                                              obtain ⟨hP1, hK1, hD1⟩ := hB
                                                              rw [ht0] at hP1
                                                              have hK1 := va_K.moved hvm.symm hK1
                                                              obtain ⟨hP, hD⟩ := va_join (wr := [((h 0), .inr (11, [.ref (h 1), .ref (h 9), .int 0, .int 0, .ref (h 20), .ref (h 37), .int 0, .ref (h 38), .ref (h 42), .ref (h 43), .ref (h 44), .ref (h 45), .ref (h 46), .ref (h 47), .ref (h 48)]))]) (w1 := [((h 38), .inr (10, [.ref (h 39), .int ((zN p0 5) + 1), .ref (h 40), .int 0, .ref (h 80), .int 0, .int 0])), ((h 39), .inl ((cs 13), 200, .inl g_50))]) hP hD [1, 2] [0] rfl rfl (by decide) (by decide) hk1 hFc hP1 hD1
                                                              generalize H1 = H at hP hS ⊢
                                                              have hP : va_P D vwCl [((h 0), .inr (11, [.ref (h 1), .ref (h 9), .int 0, .int 0, .ref (h 20), .ref (h 37), .int 0, .ref (h 38), .ref (h 42), .ref (h 43), .ref (h 44), .ref (h 45), .ref (h 46), .ref (h 47), .ref (h 48)])), ((h 38), .inr (10, [.ref (h 39), .int ((zN p0 5) + 1), .ref (h 40), .int 0, .ref (h 80), .int 0, .int 0])), ((h 39), .inl ((cs 13), 200, .inl g_50))] H := hP
                                                              have hD : va_D A [((h 0), .inr (11, [.ref (h 1), .ref (h 9), .int 0, .int 0, .ref (h 20), .ref (h 37), .int 0, .ref (h 38), .ref (h 42), .ref (h 43), .ref (h 44), .ref (h 45), .ref (h 46), .ref (h 47), .ref (h 48)])), ((h 38), .inr (10, [.ref (h 39), .int ((zN p0 5) + 1), .ref (h 40), .int 0, .ref (h 80), .int 0, .int 0])), ((h 39), .inl ((cs 13), 200, .inl g_50))] := hD
                                                              exact hk_5 _ g_50 _ _ ls (by show zN p0 5 + 1 = zN p0 5 + zC p0 16; unfold zC; rw [if_neg (show ¬ zB p0 16 = 0 from fun q => c_49 ((zB_32 _ _).mpr q))]) hP hD hS (lv_sub hl [1, 2, 3, 4] rfl)
                                                        refine lv_lload_n hx hb dX11_type_73 rfl (lv_at hl 3 rfl) ?_
                                                        refine lv_iload hx hb dX11_type_74 (lv_at hl 0 rfl) ?_
                                                        refine lv_lushr (v := ((p0).toUInt64 >>> ((24 : Int32).toInt64.toUInt64 &&& Int64.toUInt64 63)).toInt64) hx hb dX11_type_76 rfl ?_
                                                        refine lv_ldc2 (v := 255) hx hb hown (ht _ zw_544) dX11_type_77 ?_
                                                        refine lv_land hx hb dX11_type_80 ?_
                                                        refine lv_l2i (v := ((((p0).toUInt64 >>> ((24 : Int32).toInt64.toUInt64 &&& Int64.toUInt64 63)).toInt64) &&& 255).toInt32) hx hb dX11_type_81 rfl ?_
                                                        refine lv_istore (lv' := [(5, .int (((((p0).toUInt64 >>> ((24 : Int32).toInt64.toUInt64 &&& Int64.toUInt64 63)).toInt64) &&& 255).toInt32)), (4, .int 24), (3, .int (zN p0 8)), (0, .ref (h 0)), (1, .long p0)]) hx hb dX11_type_82 hl (by decide) rfl (fun ls hl => ?_)
                                                        refine lv_iload hx hb dX11_type_84 (lv_at hl 0 rfl) ?_
                                                        refine lv_if_eq (tgt := 98) hx hb dX11_type_86 (by decide) (fun c_51 => ?_) (fun c_51 => ?_)
                                                        · skip
                                                          exact hk_4 _ g_903 _ _ ls (by show zN p0 4 = zN p0 4 + zC p0 24; unfold zC; rw [if_pos (show zB p0 24 = 0 from (zB_32 _ _).mp c_51), Int32.add_zero]) hP hD hS (lv_sub hl [1, 2, 3, 4] rfl)
                                                        · skip
                                                          refine lv_aload_n hx hb dX11_type_89 rfl (lv_at hl 3 rfl) ?_
                                                          refine va_get (D := D) (ci := 11) (v := .ref (h 38)) (C := RX11) (T := TX11) (N := 15) hx hb ht zinX11 hown hK hP 0 rfl rfl 7 (by decide) (ht _ zw_367) (fun _ h9 => h9) rfl dX11_type_90 ?_
                                                          refine lv_iload hx hb dX11_type_93 (lv_at hl 0 rfl) ?_
                                                          have hPc := hP.sub (ws' := [((h 38), .inr (10, [.ref (h 39), .int (zN p0 4), .ref (h 40), .int 0, .ref (h 80), .int 0, .int 0])), ((h 39), .inl ((cs 13), 200, .inl g_903))]) [1, 2] rfl
                                                          have hDc := hD.sub (ws' := [((h 38), .inr (10, [.ref (h 39), .int (zN p0 4), .ref (h 40), .int 0, .ref (h 80), .int 0, .int 0])), ((h 39), .inl ((cs 13), 200, .inl g_903))]) [1, 2] (by decide) rfl
                                                          have hKc := hK.sub (tys' := [((cs 13), .int)]) [0] rfl
                                                          have hFc := va_free (wc := [((h 38), .inr (10, [.ref (h 39), .int (zN p0 4), .ref (h 40), .int 0, .ref (h 80), .int 0, .int 0])), ((h 39), .inl ((cs 13), 200, .inl g_903))]) hD hS hA [1, 2] rfl
                                                          refine va_callv (va_runV (As := [.int (((((p0).toUInt64 >>> ((24 : Int32).toInt64.toUInt64 &&& Int64.toUInt64 63)).toInt64) &&& 255).toInt32)]) (rest := []) ⟨hx, hb, hml, hown, ht⟩ (k_X10_add l _ D h cs (zN p0 4) (((((p0).toUInt64 >>> ((24 : Int32).toInt64.toUInt64 &&& Int64.toUInt64 63)).toInt64) &&& 255).toInt32) g_903 (by have hz := zN_le p0 4 (by decide); exact ⟨hz.1, by omega⟩)) (cwV 1 ht (zG_V zw_545 zw_546 zw_547 zw_363 zw_548) rfl rfl rfl (by decide +kernel) ⟨Nat.le_of_ble_eq_true rfl, Nat.le_of_ble_eq_true rfl⟩) (zM_V (va_recv hK hP (ci := 10) (q0 := 1) rfl rfl) hPc hKc hDc) rfl rfl hl.1 rfl (lv_room (Nat.le_of_ble_eq_true rfl)) dX11_type_95 ⟨Nat.le_of_ble_eq_true rfl, Nat.le_of_ble_eq_true rfl⟩) hS (fun q _ h => hFc q h) hFc (fun u_52 t H1 locs ht0 hvm hw_52 hB hz1 hk1 hS => ?_)
                                                          obtain ⟨g_52, hB⟩ := hB
                                                          obtain ⟨hP1, hK1, hD1⟩ := hB
                                                          rw [ht0] at hP1
                                                          have hK1 := va_K.moved hvm.symm hK1
                                                          obtain ⟨hP, hD⟩ := va_join (wr := [((h 0), .inr (11, [.ref (h 1), .ref (h 9), .int 0, .int 0, .ref (h 20), .ref (h 37), .int 0, .ref (h 38), .ref (h 42), .ref (h 43), .ref (h 44), .ref (h 45), .ref (h 46), .ref (h 47), .ref (h 48)]))]) (w1 := [((h 38), .inr (10, [.ref (h 39), .int ((zN p0 4) + 1), .ref (h 40), .int 0, .ref (h 80), .int 0, .int 0])), ((h 39), .inl ((cs 13), 200, .inl g_52))]) hP hD [1, 2] [0] rfl rfl (by decide) (by decide) hk1 hFc hP1 hD1
                                                          generalize H1 = H at hP hS ⊢
                                                          have hP : va_P D vwCl [((h 0), .inr (11, [.ref (h 1), .ref (h 9), .int 0, .int 0, .ref (h 20), .ref (h 37), .int 0, .ref (h 38), .ref (h 42), .ref (h 43), .ref (h 44), .ref (h 45), .ref (h 46), .ref (h 47), .ref (h 48)])), ((h 38), .inr (10, [.ref (h 39), .int ((zN p0 4) + 1), .ref (h 40), .int 0, .ref (h 80), .int 0, .int 0])), ((h 39), .inl ((cs 13), 200, .inl g_52))] H := hP
                                                          have hD : va_D A [((h 0), .inr (11, [.ref (h 1), .ref (h 9), .int 0, .int 0, .ref (h 20), .ref (h 37), .int 0, .ref (h 38), .ref (h 42), .ref (h 43), .ref (h 44), .ref (h 45), .ref (h 46), .ref (h 47), .ref (h 48)])), ((h 38), .inr (10, [.ref (h 39), .int ((zN p0 4) + 1), .ref (h 40), .int 0, .ref (h 80), .int 0, .int 0])), ((h 39), .inl ((cs 13), 200, .inl g_52))] := hD
                                                          exact hk_4 _ g_52 _ _ ls (by show zN p0 4 + 1 = zN p0 4 + zC p0 24; unfold zC; rw [if_neg (show ¬ zB p0 24 = 0 from fun q => c_51 ((zB_32 _ _).mpr q))]) hP hD hS (lv_sub hl [1, 2, 3, 4] rfl)
                                                    refine lv_lload_n hx hb dX11_type_73 rfl (lv_at hl 3 rfl) ?_
                                                    refine lv_iload hx hb dX11_type_74 (lv_at hl 0 rfl) ?_
                                                    refine lv_lushr (v := ((p0).toUInt64 >>> ((32 : Int32).toInt64.toUInt64 &&& Int64.toUInt64 63)).toInt64) hx hb dX11_type_76 rfl ?_
                                                    refine lv_ldc2 (v := 255) hx hb hown (ht _ zw_544) dX11_type_77 ?_
                                                    refine lv_land hx hb dX11_type_80 ?_
                                                    refine lv_l2i (v := ((((p0).toUInt64 >>> ((32 : Int32).toInt64.toUInt64 &&& Int64.toUInt64 63)).toInt64) &&& 255).toInt32) hx hb dX11_type_81 rfl ?_
                                                    refine lv_istore (lv' := [(5, .int (((((p0).toUInt64 >>> ((32 : Int32).toInt64.toUInt64 &&& Int64.toUInt64 63)).toInt64) &&& 255).toInt32)), (4, .int 32), (3, .int (zN p0 8)), (0, .ref (h 0)), (1, .long p0)]) hx hb dX11_type_82 hl (by decide) rfl (fun ls hl => ?_)
                                                    refine lv_iload hx hb dX11_type_84 (lv_at hl 0 rfl) ?_
                                                    refine lv_if_eq (tgt := 98) hx hb dX11_type_86 (by decide) (fun c_53 => ?_) (fun c_53 => ?_)
                                                    · skip
                                                      exact hk_3 _ g_902 _ _ ls (by show zN p0 3 = zN p0 3 + zC p0 32; unfold zC; rw [if_pos (show zB p0 32 = 0 from (zB_32 _ _).mp c_53), Int32.add_zero]) hP hD hS (lv_sub hl [1, 2, 3, 4] rfl)
                                                    · skip
                                                      refine lv_aload_n hx hb dX11_type_89 rfl (lv_at hl 3 rfl) ?_
                                                      refine va_get (D := D) (ci := 11) (v := .ref (h 38)) (C := RX11) (T := TX11) (N := 15) hx hb ht zinX11 hown hK hP 0 rfl rfl 7 (by decide) (ht _ zw_367) (fun _ h9 => h9) rfl dX11_type_90 ?_
                                                      refine lv_iload hx hb dX11_type_93 (lv_at hl 0 rfl) ?_
                                                      have hPc := hP.sub (ws' := [((h 38), .inr (10, [.ref (h 39), .int (zN p0 3), .ref (h 40), .int 0, .ref (h 80), .int 0, .int 0])), ((h 39), .inl ((cs 13), 200, .inl g_902))]) [1, 2] rfl
                                                      have hDc := hD.sub (ws' := [((h 38), .inr (10, [.ref (h 39), .int (zN p0 3), .ref (h 40), .int 0, .ref (h 80), .int 0, .int 0])), ((h 39), .inl ((cs 13), 200, .inl g_902))]) [1, 2] (by decide) rfl
                                                      have hKc := hK.sub (tys' := [((cs 13), .int)]) [0] rfl
                                                      have hFc := va_free (wc := [((h 38), .inr (10, [.ref (h 39), .int (zN p0 3), .ref (h 40), .int 0, .ref (h 80), .int 0, .int 0])), ((h 39), .inl ((cs 13), 200, .inl g_902))]) hD hS hA [1, 2] rfl
                                                      refine va_callv (va_runV (As := [.int (((((p0).toUInt64 >>> ((32 : Int32).toInt64.toUInt64 &&& Int64.toUInt64 63)).toInt64) &&& 255).toInt32)]) (rest := []) ⟨hx, hb, hml, hown, ht⟩ (k_X10_add l _ D h cs (zN p0 3) (((((p0).toUInt64 >>> ((32 : Int32).toInt64.toUInt64 &&& Int64.toUInt64 63)).toInt64) &&& 255).toInt32) g_902 (by have hz := zN_le p0 3 (by decide); exact ⟨hz.1, by omega⟩)) (cwV 1 ht (zG_V zw_545 zw_546 zw_547 zw_363 zw_548) rfl rfl rfl (by decide +kernel) ⟨Nat.le_of_ble_eq_true rfl, Nat.le_of_ble_eq_true rfl⟩) (zM_V (va_recv hK hP (ci := 10) (q0 := 1) rfl rfl) hPc hKc hDc) rfl rfl hl.1 rfl (lv_room (Nat.le_of_ble_eq_true rfl)) dX11_type_95 ⟨Nat.le_of_ble_eq_true rfl, Nat.le_of_ble_eq_true rfl⟩) hS (fun q _ h => hFc q h) hFc (fun u_54 t H1 locs ht0 hvm hw_54 hB hz1 hk1 hS => ?_)
                                                      obtain ⟨g_54, hB⟩ := hB
                                                      obtain ⟨hP1, hK1, hD1⟩ := hB
                                                      rw [ht0] at hP1
                                                      have hK1 := va_K.moved hvm.symm hK1
                                                      obtain ⟨hP, hD⟩ := va_join (wr := [((h 0), .inr (11, [.ref (h 1), .ref (h 9), .int 0, .int 0, .ref (h 20), .ref (h 37), .int 0, .ref (h 38), .ref (h 42), .ref (h 43), .ref (h 44), .ref (h 45), .ref (h 46), .ref (h 47), .ref (h 48)]))]) (w1 := [((h 38), .inr (10, [.ref (h 39), .int ((zN p0 3) + 1), .ref (h 40), .int 0, .ref (h 80), .int 0, .int 0])), ((h 39), .inl ((cs 13), 200, .inl g_54))]) hP hD [1, 2] [0] rfl rfl (by decide) (by decide) hk1 hFc hP1 hD1
                                                      generalize H1 = H at hP hS ⊢
                                                      have hP : va_P D vwCl [((h 0), .inr (11, [.ref (h 1), .ref (h 9), .int 0, .int 0, .ref (h 20), .ref (h 37), .int 0, .ref (h 38), .ref (h 42), .ref (h 43), .ref (h 44), .ref (h 45), .ref (h 46), .ref (h 47), .ref (h 48)])), ((h 38), .inr (10, [.ref (h 39), .int ((zN p0 3) + 1), .ref (h 40), .int 0, .ref (h 80), .int 0, .int 0])), ((h 39), .inl ((cs 13), 200, .inl g_54))] H := hP
                                                      have hD : va_D A [((h 0), .inr (11, [.ref (h 1), .ref (h 9), .int 0, .int 0, .ref (h 20), .ref (h 37), .int 0, .ref (h 38), .ref (h 42), .ref (h 43), .ref (h 44), .ref (h 45), .ref (h 46), .ref (h 47), .ref (h 48)])), ((h 38), .inr (10, [.ref (h 39), .int ((zN p0 3) + 1), .ref (h 40), .int 0, .ref (h 80), .int 0, .int 0])), ((h 39), .inl ((cs 13), 200, .inl g_54))] := hD
                                                      exact hk_3 _ g_54 _ _ ls (by show zN p0 3 + 1 = zN p0 3 + zC p0 32; unfold zC; rw [if_neg (show ¬ zB p0 32 = 0 from fun q => c_53 ((zB_32 _ _).mpr q))]) hP hD hS (lv_sub hl [1, 2, 3, 4] rfl)
                                                refine lv_lload_n hx hb dX11_type_73 rfl (lv_at hl 3 rfl) ?_
                                                refine lv_iload hx hb dX11_type_74 (lv_at hl 0 rfl) ?_
                                                refine lv_lushr (v := ((p0).toUInt64 >>> ((40 : Int32).toInt64.toUInt64 &&& Int64.toUInt64 63)).toInt64) hx hb dX11_type_76 rfl ?_
                                                refine lv_ldc2 (v := 255) hx hb hown (ht _ zw_544) dX11_type_77 ?_
                                                refine lv_land hx hb dX11_type_80 ?_
                                                refine lv_l2i (v := ((((p0).toUInt64 >>> ((40 : Int32).toInt64.toUInt64 &&& Int64.toUInt64 63)).toInt64) &&& 255).toInt32) hx hb dX11_type_81 rfl ?_
                                                refine lv_istore (lv' := [(5, .int (((((p0).toUInt64 >>> ((40 : Int32).toInt64.toUInt64 &&& Int64.toUInt64 63)).toInt64) &&& 255).toInt32)), (4, .int 40), (3, .int (zN p0 8)), (0, .ref (h 0)), (1, .long p0)]) hx hb dX11_type_82 hl (by decide) rfl (fun ls hl => ?_)
                                                refine lv_iload hx hb dX11_type_84 (lv_at hl 0 rfl) ?_
                                                refine lv_if_eq (tgt := 98) hx hb dX11_type_86 (by decide) (fun c_55 => ?_) (fun c_55 => ?_)
                                                · skip
                                                  exact hk_2 _ g_901 _ _ ls (by show zN p0 2 = zN p0 2 + zC p0 40; unfold zC; rw [if_pos (show zB p0 40 = 0 from (zB_32 _ _).mp c_55), Int32.add_zero]) hP hD hS (lv_sub hl [1, 2, 3, 4] rfl)
                                                · skip
                                                  refine lv_aload_n hx hb dX11_type_89 rfl (lv_at hl 3 rfl) ?_
                                                  refine va_get (D := D) (ci := 11) (v := .ref (h 38)) (C := RX11) (T := TX11) (N := 15) hx hb ht zinX11 hown hK hP 0 rfl rfl 7 (by decide) (ht _ zw_367) (fun _ h9 => h9) rfl dX11_type_90 ?_
                                                  refine lv_iload hx hb dX11_type_93 (lv_at hl 0 rfl) ?_
                                                  have hPc := hP.sub (ws' := [((h 38), .inr (10, [.ref (h 39), .int (zN p0 2), .ref (h 40), .int 0, .ref (h 80), .int 0, .int 0])), ((h 39), .inl ((cs 13), 200, .inl g_901))]) [1, 2] rfl
                                                  have hDc := hD.sub (ws' := [((h 38), .inr (10, [.ref (h 39), .int (zN p0 2), .ref (h 40), .int 0, .ref (h 80), .int 0, .int 0])), ((h 39), .inl ((cs 13), 200, .inl g_901))]) [1, 2] (by decide) rfl
                                                  have hKc := hK.sub (tys' := [((cs 13), .int)]) [0] rfl
                                                  have hFc := va_free (wc := [((h 38), .inr (10, [.ref (h 39), .int (zN p0 2), .ref (h 40), .int 0, .ref (h 80), .int 0, .int 0])), ((h 39), .inl ((cs 13), 200, .inl g_901))]) hD hS hA [1, 2] rfl
                                                  refine va_callv (va_runV (As := [.int (((((p0).toUInt64 >>> ((40 : Int32).toInt64.toUInt64 &&& Int64.toUInt64 63)).toInt64) &&& 255).toInt32)]) (rest := []) ⟨hx, hb, hml, hown, ht⟩ (k_X10_add l _ D h cs (zN p0 2) (((((p0).toUInt64 >>> ((40 : Int32).toInt64.toUInt64 &&& Int64.toUInt64 63)).toInt64) &&& 255).toInt32) g_901 (by have hz := zN_le p0 2 (by decide); exact ⟨hz.1, by omega⟩)) (cwV 1 ht (zG_V zw_545 zw_546 zw_547 zw_363 zw_548) rfl rfl rfl (by decide +kernel) ⟨Nat.le_of_ble_eq_true rfl, Nat.le_of_ble_eq_true rfl⟩) (zM_V (va_recv hK hP (ci := 10) (q0 := 1) rfl rfl) hPc hKc hDc) rfl rfl hl.1 rfl (lv_room (Nat.le_of_ble_eq_true rfl)) dX11_type_95 ⟨Nat.le_of_ble_eq_true rfl, Nat.le_of_ble_eq_true rfl⟩) hS (fun q _ h => hFc q h) hFc (fun u_56 t H1 locs ht0 hvm hw_56 hB hz1 hk1 hS => ?_)
                                                  obtain ⟨g_56, hB⟩ := hB
                                                  obtain ⟨hP1, hK1, hD1⟩ := hB
                                                  rw [ht0] at hP1
                                                  have hK1 := va_K.moved hvm.symm hK1
                                                  obtain ⟨hP, hD⟩ := va_join (wr := [((h 0), .inr (11, [.ref (h 1), .ref (h 9), .int 0, .int 0, .ref (h 20), .ref (h 37), .int 0, .ref (h 38), .ref (h 42), .ref (h 43), .ref (h 44), .ref (h 45), .ref (h 46), .ref (h 47), .ref (h 48)]))]) (w1 := [((h 38), .inr (10, [.ref (h 39), .int ((zN p0 2) + 1), .ref (h 40), .int 0, .ref (h 80), .int 0, .int 0])), ((h 39), .inl ((cs 13), 200, .inl g_56))]) hP hD [1, 2] [0] rfl rfl (by decide) (by decide) hk1 hFc hP1 hD1
                                                  generalize H1 = H at hP hS ⊢
                                                  have hP : va_P D vwCl [((h 0), .inr (11, [.ref (h 1), .ref (h 9), .int 0, .int 0, .ref (h 20), .ref (h 37), .int 0, .ref (h 38), .ref (h 42), .ref (h 43), .ref (h 44), .ref (h 45), .ref (h 46), .ref (h 47), .ref (h 48)])), ((h 38), .inr (10, [.ref (h 39), .int ((zN p0 2) + 1), .ref (h 40), .int 0, .ref (h 80), .int 0, .int 0])), ((h 39), .inl ((cs 13), 200, .inl g_56))] H := hP
                                                  have hD : va_D A [((h 0), .inr (11, [.ref (h 1), .ref (h 9), .int 0, .int 0, .ref (h 20), .ref (h 37), .int 0, .ref (h 38), .ref (h 42), .ref (h 43), .ref (h 44), .ref (h 45), .ref (h 46), .ref (h 47), .ref (h 48)])), ((h 38), .inr (10, [.ref (h 39), .int ((zN p0 2) + 1), .ref (h 40), .int 0, .ref (h 80), .int 0, .int 0])), ((h 39), .inl ((cs 13), 200, .inl g_56))] := hD
                                                  exact hk_2 _ g_56 _ _ ls (by show zN p0 2 + 1 = zN p0 2 + zC p0 40; unfold zC; rw [if_neg (show ¬ zB p0 40 = 0 from fun q => c_55 ((zB_32 _ _).mpr q))]) hP hD hS (lv_sub hl [1, 2, 3, 4] rfl)
                                            refine lv_lload_n hx hb dX11_type_73 rfl (lv_at hl 3 rfl) ?_
                                            refine lv_iload hx hb dX11_type_74 (lv_at hl 0 rfl) ?_
                                            refine lv_lushr (v := ((p0).toUInt64 >>> ((48 : Int32).toInt64.toUInt64 &&& Int64.toUInt64 63)).toInt64) hx hb dX11_type_76 rfl ?_
                                            refine lv_ldc2 (v := 255) hx hb hown (ht _ zw_544) dX11_type_77 ?_
                                            refine lv_land hx hb dX11_type_80 ?_
                                            refine lv_l2i (v := ((((p0).toUInt64 >>> ((48 : Int32).toInt64.toUInt64 &&& Int64.toUInt64 63)).toInt64) &&& 255).toInt32) hx hb dX11_type_81 rfl ?_
                                            refine lv_istore (lv' := [(5, .int (((((p0).toUInt64 >>> ((48 : Int32).toInt64.toUInt64 &&& Int64.toUInt64 63)).toInt64) &&& 255).toInt32)), (4, .int 48), (3, .int (zN p0 8)), (0, .ref (h 0)), (1, .long p0)]) hx hb dX11_type_82 hl (by decide) rfl (fun ls hl => ?_)
                                            refine lv_iload hx hb dX11_type_84 (lv_at hl 0 rfl) ?_
                                            refine lv_if_eq (tgt := 98) hx hb dX11_type_86 (by decide) (fun c_57 => ?_) (fun c_57 => ?_)
                                            · skip
                                              exact hk_1 _ g_900 _ _ ls (by show zN p0 1 = zN p0 1 + zC p0 48; unfold zC; rw [if_pos (show zB p0 48 = 0 from (zB_32 _ _).mp c_57), Int32.add_zero]) hP hD hS (lv_sub hl [1, 2, 3, 4] rfl)
                                            · skip
                                              refine lv_aload_n hx hb dX11_type_89 rfl (lv_at hl 3 rfl) ?_
                                              refine va_get (D := D) (ci := 11) (v := .ref (h 38)) (C := RX11) (T := TX11) (N := 15) hx hb ht zinX11 hown hK hP 0 rfl rfl 7 (by decide) (ht _ zw_367) (fun _ h9 => h9) rfl dX11_type_90 ?_
                                              refine lv_iload hx hb dX11_type_93 (lv_at hl 0 rfl) ?_
                                              have hPc := hP.sub (ws' := [((h 38), .inr (10, [.ref (h 39), .int (zN p0 1), .ref (h 40), .int 0, .ref (h 80), .int 0, .int 0])), ((h 39), .inl ((cs 13), 200, .inl g_900))]) [1, 2] rfl
                                              have hDc := hD.sub (ws' := [((h 38), .inr (10, [.ref (h 39), .int (zN p0 1), .ref (h 40), .int 0, .ref (h 80), .int 0, .int 0])), ((h 39), .inl ((cs 13), 200, .inl g_900))]) [1, 2] (by decide) rfl
                                              have hKc := hK.sub (tys' := [((cs 13), .int)]) [0] rfl
                                              have hFc := va_free (wc := [((h 38), .inr (10, [.ref (h 39), .int (zN p0 1), .ref (h 40), .int 0, .ref (h 80), .int 0, .int 0])), ((h 39), .inl ((cs 13), 200, .inl g_900))]) hD hS hA [1, 2] rfl
                                              refine va_callv (va_runV (As := [.int (((((p0).toUInt64 >>> ((48 : Int32).toInt64.toUInt64 &&& Int64.toUInt64 63)).toInt64) &&& 255).toInt32)]) (rest := []) ⟨hx, hb, hml, hown, ht⟩ (k_X10_add l _ D h cs (zN p0 1) (((((p0).toUInt64 >>> ((48 : Int32).toInt64.toUInt64 &&& Int64.toUInt64 63)).toInt64) &&& 255).toInt32) g_900 (by have hz := zN_le p0 1 (by decide); exact ⟨hz.1, by omega⟩)) (cwV 1 ht (zG_V zw_545 zw_546 zw_547 zw_363 zw_548) rfl rfl rfl (by decide +kernel) ⟨Nat.le_of_ble_eq_true rfl, Nat.le_of_ble_eq_true rfl⟩) (zM_V (va_recv hK hP (ci := 10) (q0 := 1) rfl rfl) hPc hKc hDc) rfl rfl hl.1 rfl (lv_room (Nat.le_of_ble_eq_true rfl)) dX11_type_95 ⟨Nat.le_of_ble_eq_true rfl, Nat.le_of_ble_eq_true rfl⟩) hS (fun q _ h => hFc q h) hFc (fun u_58 t H1 locs ht0 hvm hw_58 hB hz1 hk1 hS => ?_)
                                              obtain ⟨g_58, hB⟩ := hB
                                              obtain ⟨hP1, hK1, hD1⟩ := hB
                                              rw [ht0] at hP1
                                              have hK1 := va_K.moved hvm.symm hK1
                                              obtain ⟨hP, hD⟩ := va_join (wr := [((h 0), .inr (11, [.ref (h 1), .ref (h 9), .int 0, .int 0, .ref (h 20), .ref (h 37), .int 0, .ref (h 38), .ref (h 42), .ref (h 43), .ref (h 44), .ref (h 45), .ref (h 46), .ref (h 47), .ref (h 48)]))]) (w1 := [((h 38), .inr (10, [.ref (h 39), .int ((zN p0 1) + 1), .ref (h 40), .int 0, .ref (h 80), .int 0, .int 0])), ((h 39), .inl ((cs 13), 200, .inl g_58))]) hP hD [1, 2] [0] rfl rfl (by decide) (by decide) hk1 hFc hP1 hD1
                                              generalize H1 = H at hP hS ⊢
                                              have hP : va_P D vwCl [((h 0), .inr (11, [.ref (h 1), .ref (h 9), .int 0, .int 0, .ref (h 20), .ref (h 37), .int 0, .ref (h 38), .ref (h 42), .ref (h 43), .ref (h 44), .ref (h 45), .ref (h 46), .ref (h 47), .ref (h 48)])), ((h 38), .inr (10, [.ref (h 39), .int ((zN p0 1) + 1), .ref (h 40), .int 0, .ref (h 80), .int 0, .int 0])), ((h 39), .inl ((cs 13), 200, .inl g_58))] H := hP
                                              have hD : va_D A [((h 0), .inr (11, [.ref (h 1), .ref (h 9), .int 0, .int 0, .ref (h 20), .ref (h 37), .int 0, .ref (h 38), .ref (h 42), .ref (h 43), .ref (h 44), .ref (h 45), .ref (h 46), .ref (h 47), .ref (h 48)])), ((h 38), .inr (10, [.ref (h 39), .int ((zN p0 1) + 1), .ref (h 40), .int 0, .ref (h 80), .int 0, .int 0])), ((h 39), .inl ((cs 13), 200, .inl g_58))] := hD
                                              exact hk_1 _ g_58 _ _ ls (by show zN p0 1 + 1 = zN p0 1 + zC p0 48; unfold zC; rw [if_neg (show ¬ zB p0 48 = 0 from fun q => c_57 ((zB_32 _ _).mpr q))]) hP hD hS (lv_sub hl [1, 2, 3, 4] rfl)
                                        refine lv_lload_n hx hb dX11_type_73 rfl (lv_at hl 3 rfl) ?_
                                        refine lv_iload hx hb dX11_type_74 (lv_at hl 0 rfl) ?_
                                        refine lv_lushr (v := ((p0).toUInt64 >>> ((56 : Int32).toInt64.toUInt64 &&& Int64.toUInt64 63)).toInt64) hx hb dX11_type_76 rfl ?_
                                        refine lv_ldc2 (v := 255) hx hb hown (ht _ zw_544) dX11_type_77 ?_
                                        refine lv_land hx hb dX11_type_80 ?_
                                        refine lv_l2i (v := ((((p0).toUInt64 >>> ((56 : Int32).toInt64.toUInt64 &&& Int64.toUInt64 63)).toInt64) &&& 255).toInt32) hx hb dX11_type_81 rfl ?_
                                        refine lv_istore (lv' := [(5, .int (((((p0).toUInt64 >>> ((56 : Int32).toInt64.toUInt64 &&& Int64.toUInt64 63)).toInt64) &&& 255).toInt32)), (4, .int 56), (3, .int (zN p0 8)), (0, .ref (h 0)), (1, .long p0)]) hx hb dX11_type_82 hl (by decide) rfl (fun ls hl => ?_)
                                        refine lv_iload hx hb dX11_type_84 (lv_at hl 0 rfl) ?_
                                        refine lv_if_eq (tgt := 98) hx hb dX11_type_86 (by decide) (fun c_59 => ?_) (fun c_59 => ?_)
                                        · skip
                                          exact hk_0 _ zI0 _ _ ls (by show zN p0 0 = zN p0 0 + zC p0 56; unfold zC; rw [if_pos (show zB p0 56 = 0 from (zB_32 _ _).mp c_59), Int32.add_zero]) hP hD hS (lv_sub hl [1, 2, 3, 4] rfl)
                                        · skip
                                          refine lv_aload_n hx hb dX11_type_89 rfl (lv_at hl 3 rfl) ?_
                                          refine va_get (D := D) (ci := 11) (v := .ref (h 38)) (C := RX11) (T := TX11) (N := 15) hx hb ht zinX11 hown hK hP 0 rfl rfl 7 (by decide) (ht _ zw_367) (fun _ h9 => h9) rfl dX11_type_90 ?_
                                          refine lv_iload hx hb dX11_type_93 (lv_at hl 0 rfl) ?_
                                          have hPc := hP.sub (ws' := [((h 38), .inr (10, [.ref (h 39), .int (zN p0 0), .ref (h 40), .int 0, .ref (h 80), .int 0, .int 0])), ((h 39), .inl ((cs 13), 200, .inl zI0))]) [1, 2] rfl
                                          have hDc := hD.sub (ws' := [((h 38), .inr (10, [.ref (h 39), .int (zN p0 0), .ref (h 40), .int 0, .ref (h 80), .int 0, .int 0])), ((h 39), .inl ((cs 13), 200, .inl zI0))]) [1, 2] (by decide) rfl
                                          have hKc := hK.sub (tys' := [((cs 13), .int)]) [0] rfl
                                          have hFc := va_free (wc := [((h 38), .inr (10, [.ref (h 39), .int (zN p0 0), .ref (h 40), .int 0, .ref (h 80), .int 0, .int 0])), ((h 39), .inl ((cs 13), 200, .inl zI0))]) hD hS hA [1, 2] rfl
                                          refine va_callv (va_runV (As := [.int (((((p0).toUInt64 >>> ((56 : Int32).toInt64.toUInt64 &&& Int64.toUInt64 63)).toInt64) &&& 255).toInt32)]) (rest := []) ⟨hx, hb, hml, hown, ht⟩ (k_X10_add l _ D h cs (zN p0 0) (((((p0).toUInt64 >>> ((56 : Int32).toInt64.toUInt64 &&& Int64.toUInt64 63)).toInt64) &&& 255).toInt32) zI0 (by have hz := zN_le p0 0 (by decide); exact ⟨hz.1, by omega⟩)) (cwV 1 ht (zG_V zw_545 zw_546 zw_547 zw_363 zw_548) rfl rfl rfl (by decide +kernel) ⟨Nat.le_of_ble_eq_true rfl, Nat.le_of_ble_eq_true rfl⟩) (zM_V (va_recv hK hP (ci := 10) (q0 := 1) rfl rfl) hPc hKc hDc) rfl rfl hl.1 rfl (lv_room (Nat.le_of_ble_eq_true rfl)) dX11_type_95 ⟨Nat.le_of_ble_eq_true rfl, Nat.le_of_ble_eq_true rfl⟩) hS (fun q _ h => hFc q h) hFc (fun u_60 t H1 locs ht0 hvm hw_60 hB hz1 hk1 hS => ?_)
                                          obtain ⟨g_60, hB⟩ := hB
                                          obtain ⟨hP1, hK1, hD1⟩ := hB
                                          rw [ht0] at hP1
                                          have hK1 := va_K.moved hvm.symm hK1
                                          obtain ⟨hP, hD⟩ := va_join (wr := [((h 0), .inr (11, [.ref (h 1), .ref (h 9), .int 0, .int 0, .ref (h 20), .ref (h 37), .int 0, .ref (h 38), .ref (h 42), .ref (h 43), .ref (h 44), .ref (h 45), .ref (h 46), .ref (h 47), .ref (h 48)]))]) (w1 := [((h 38), .inr (10, [.ref (h 39), .int ((zN p0 0) + 1), .ref (h 40), .int 0, .ref (h 80), .int 0, .int 0])), ((h 39), .inl ((cs 13), 200, .inl g_60))]) hP hD [1, 2] [0] rfl rfl (by decide) (by decide) hk1 hFc hP1 hD1
                                          generalize H1 = H at hP hS ⊢
                                          have hP : va_P D vwCl [((h 0), .inr (11, [.ref (h 1), .ref (h 9), .int 0, .int 0, .ref (h 20), .ref (h 37), .int 0, .ref (h 38), .ref (h 42), .ref (h 43), .ref (h 44), .ref (h 45), .ref (h 46), .ref (h 47), .ref (h 48)])), ((h 38), .inr (10, [.ref (h 39), .int ((zN p0 0) + 1), .ref (h 40), .int 0, .ref (h 80), .int 0, .int 0])), ((h 39), .inl ((cs 13), 200, .inl g_60))] H := hP
                                          have hD : va_D A [((h 0), .inr (11, [.ref (h 1), .ref (h 9), .int 0, .int 0, .ref (h 20), .ref (h 37), .int 0, .ref (h 38), .ref (h 42), .ref (h 43), .ref (h 44), .ref (h 45), .ref (h 46), .ref (h 47), .ref (h 48)])), ((h 38), .inr (10, [.ref (h 39), .int ((zN p0 0) + 1), .ref (h 40), .int 0, .ref (h 80), .int 0, .int 0])), ((h 39), .inl ((cs 13), 200, .inl g_60))] := hD
                                          exact hk_0 _ g_60 _ _ ls (by show zN p0 0 + 1 = zN p0 0 + zC p0 56; unfold zC; rw [if_neg (show ¬ zB p0 56 = 0 from fun q => c_59 ((zB_32 _ _).mpr q))]) hP hD hS (lv_sub hl [1, 2, 3, 4] rfl)
                                    · skip
                                      simp only [fa_lt, fa_le, fa_eq, Int32.reduceToInt] at c_27
                                      rw [e_26, Int32.zero_add] at c_27
                                      exfalso; omega
                                  · skip
                                    exact absurd c_25 (by decide)
                                refine lv_iload_n hx hb dX11_type_11 rfl (lv_at hl 1 rfl) ?_
                                refine lv_lload_n hx hb dX11_type_12 rfl (lv_at hl 3 rfl) ?_
                                refine lv_iload hx hb dX11_type_13 (lv_at hl 0 rfl) ?_
                                refine lv_lushr (v := ((p0).toUInt64 >>> ((0 : Int32).toInt64.toUInt64 &&& Int64.toUInt64 63)).toInt64) hx hb dX11_type_15 rfl ?_
                                refine lv_ldc2 (v := 255) hx hb hown (ht _ zw_544) dX11_type_16 ?_
                                refine lv_land hx hb dX11_type_19 ?_
                                refine lv_lconst (v := 0) hx hb dX11_type_20 (by decide) ?_
                                refine W.lcmp hx hb dX11_type_21 ?_
                                refine lv_if_eq (tgt := 29) hx hb dX11_type_22 (by decide) (fun c_61 => ?_) (fun c_61 => ?_)
                                · skip
                                  refine lv_iconst (v := 0) hx hb dX11_type_29 (by decide) ?_
                                  exact hj_7 _ (by unfold zC; rw [if_pos (show zB p0 0 = 0 from (zcmp0 _).mp c_61)])
                                · skip
                                  refine lv_iconst (v := 1) hx hb dX11_type_25 (by decide) ?_
                                  refine lv_goto (tgt := 30) hx hb dX11_type_26 (by decide) ?_
                                  exact hj_7 _ (by unfold zC; rw [if_neg (show ¬ zB p0 0 = 0 from fun q => c_61 ((zcmp0 _).mpr q))])
                            refine lv_iload_n hx hb dX11_type_11 rfl (lv_at hl 1 rfl) ?_
                            refine lv_lload_n hx hb dX11_type_12 rfl (lv_at hl 3 rfl) ?_
                            refine lv_iload hx hb dX11_type_13 (lv_at hl 0 rfl) ?_
                            refine lv_lushr (v := ((p0).toUInt64 >>> ((8 : Int32).toInt64.toUInt64 &&& Int64.toUInt64 63)).toInt64) hx hb dX11_type_15 rfl ?_
                            refine lv_ldc2 (v := 255) hx hb hown (ht _ zw_544) dX11_type_16 ?_
                            refine lv_land hx hb dX11_type_19 ?_
                            refine lv_lconst (v := 0) hx hb dX11_type_20 (by decide) ?_
                            refine W.lcmp hx hb dX11_type_21 ?_
                            refine lv_if_eq (tgt := 29) hx hb dX11_type_22 (by decide) (fun c_62 => ?_) (fun c_62 => ?_)
                            · skip
                              refine lv_iconst (v := 0) hx hb dX11_type_29 (by decide) ?_
                              exact hj_6 _ (by unfold zC; rw [if_pos (show zB p0 8 = 0 from (zcmp0 _).mp c_62)])
                            · skip
                              refine lv_iconst (v := 1) hx hb dX11_type_25 (by decide) ?_
                              refine lv_goto (tgt := 30) hx hb dX11_type_26 (by decide) ?_
                              exact hj_6 _ (by unfold zC; rw [if_neg (show ¬ zB p0 8 = 0 from fun q => c_62 ((zcmp0 _).mpr q))])
                        refine lv_iload_n hx hb dX11_type_11 rfl (lv_at hl 1 rfl) ?_
                        refine lv_lload_n hx hb dX11_type_12 rfl (lv_at hl 3 rfl) ?_
                        refine lv_iload hx hb dX11_type_13 (lv_at hl 0 rfl) ?_
                        refine lv_lushr (v := ((p0).toUInt64 >>> ((16 : Int32).toInt64.toUInt64 &&& Int64.toUInt64 63)).toInt64) hx hb dX11_type_15 rfl ?_
                        refine lv_ldc2 (v := 255) hx hb hown (ht _ zw_544) dX11_type_16 ?_
                        refine lv_land hx hb dX11_type_19 ?_
                        refine lv_lconst (v := 0) hx hb dX11_type_20 (by decide) ?_
                        refine W.lcmp hx hb dX11_type_21 ?_
                        refine lv_if_eq (tgt := 29) hx hb dX11_type_22 (by decide) (fun c_63 => ?_) (fun c_63 => ?_)
                        · skip
                          refine lv_iconst (v := 0) hx hb dX11_type_29 (by decide) ?_
                          exact hj_5 _ (by unfold zC; rw [if_pos (show zB p0 16 = 0 from (zcmp0 _).mp c_63)])
                        · skip
                          refine lv_iconst (v := 1) hx hb dX11_type_25 (by decide) ?_
                          refine lv_goto (tgt := 30) hx hb dX11_type_26 (by decide) ?_
                          exact hj_5 _ (by unfold zC; rw [if_neg (show ¬ zB p0 16 = 0 from fun q => c_63 ((zcmp0 _).mpr q))])
                    refine lv_iload_n hx hb dX11_type_11 rfl (lv_at hl 1 rfl) ?_
                    refine lv_lload_n hx hb dX11_type_12 rfl (lv_at hl 3 rfl) ?_
                    refine lv_iload hx hb dX11_type_13 (lv_at hl 0 rfl) ?_
                    refine lv_lushr (v := ((p0).toUInt64 >>> ((24 : Int32).toInt64.toUInt64 &&& Int64.toUInt64 63)).toInt64) hx hb dX11_type_15 rfl ?_
                    refine lv_ldc2 (v := 255) hx hb hown (ht _ zw_544) dX11_type_16 ?_
                    refine lv_land hx hb dX11_type_19 ?_
                    refine lv_lconst (v := 0) hx hb dX11_type_20 (by decide) ?_
                    refine W.lcmp hx hb dX11_type_21 ?_
                    refine lv_if_eq (tgt := 29) hx hb dX11_type_22 (by decide) (fun c_64 => ?_) (fun c_64 => ?_)
                    · skip
                      refine lv_iconst (v := 0) hx hb dX11_type_29 (by decide) ?_
                      exact hj_4 _ (by unfold zC; rw [if_pos (show zB p0 24 = 0 from (zcmp0 _).mp c_64)])
                    · skip
                      refine lv_iconst (v := 1) hx hb dX11_type_25 (by decide) ?_
                      refine lv_goto (tgt := 30) hx hb dX11_type_26 (by decide) ?_
                      exact hj_4 _ (by unfold zC; rw [if_neg (show ¬ zB p0 24 = 0 from fun q => c_64 ((zcmp0 _).mpr q))])
                refine lv_iload_n hx hb dX11_type_11 rfl (lv_at hl 1 rfl) ?_
                refine lv_lload_n hx hb dX11_type_12 rfl (lv_at hl 3 rfl) ?_
                refine lv_iload hx hb dX11_type_13 (lv_at hl 0 rfl) ?_
                refine lv_lushr (v := ((p0).toUInt64 >>> ((32 : Int32).toInt64.toUInt64 &&& Int64.toUInt64 63)).toInt64) hx hb dX11_type_15 rfl ?_
                refine lv_ldc2 (v := 255) hx hb hown (ht _ zw_544) dX11_type_16 ?_
                refine lv_land hx hb dX11_type_19 ?_
                refine lv_lconst (v := 0) hx hb dX11_type_20 (by decide) ?_
                refine W.lcmp hx hb dX11_type_21 ?_
                refine lv_if_eq (tgt := 29) hx hb dX11_type_22 (by decide) (fun c_65 => ?_) (fun c_65 => ?_)
                · skip
                  refine lv_iconst (v := 0) hx hb dX11_type_29 (by decide) ?_
                  exact hj_3 _ (by unfold zC; rw [if_pos (show zB p0 32 = 0 from (zcmp0 _).mp c_65)])
                · skip
                  refine lv_iconst (v := 1) hx hb dX11_type_25 (by decide) ?_
                  refine lv_goto (tgt := 30) hx hb dX11_type_26 (by decide) ?_
                  exact hj_3 _ (by unfold zC; rw [if_neg (show ¬ zB p0 32 = 0 from fun q => c_65 ((zcmp0 _).mpr q))])
            refine lv_iload_n hx hb dX11_type_11 rfl (lv_at hl 1 rfl) ?_
            refine lv_lload_n hx hb dX11_type_12 rfl (lv_at hl 3 rfl) ?_
            refine lv_iload hx hb dX11_type_13 (lv_at hl 0 rfl) ?_
            refine lv_lushr (v := ((p0).toUInt64 >>> ((40 : Int32).toInt64.toUInt64 &&& Int64.toUInt64 63)).toInt64) hx hb dX11_type_15 rfl ?_
            refine lv_ldc2 (v := 255) hx hb hown (ht _ zw_544) dX11_type_16 ?_
            refine lv_land hx hb dX11_type_19 ?_
            refine lv_lconst (v := 0) hx hb dX11_type_20 (by decide) ?_
            refine W.lcmp hx hb dX11_type_21 ?_
            refine lv_if_eq (tgt := 29) hx hb dX11_type_22 (by decide) (fun c_66 => ?_) (fun c_66 => ?_)
            · skip
              refine lv_iconst (v := 0) hx hb dX11_type_29 (by decide) ?_
              exact hj_2 _ (by unfold zC; rw [if_pos (show zB p0 40 = 0 from (zcmp0 _).mp c_66)])
            · skip
              refine lv_iconst (v := 1) hx hb dX11_type_25 (by decide) ?_
              refine lv_goto (tgt := 30) hx hb dX11_type_26 (by decide) ?_
              exact hj_2 _ (by unfold zC; rw [if_neg (show ¬ zB p0 40 = 0 from fun q => c_66 ((zcmp0 _).mpr q))])
        refine lv_iload_n hx hb dX11_type_11 rfl (lv_at hl 1 rfl) ?_
        refine lv_lload_n hx hb dX11_type_12 rfl (lv_at hl 3 rfl) ?_
        refine lv_iload hx hb dX11_type_13 (lv_at hl 0 rfl) ?_
        refine lv_lushr (v := ((p0).toUInt64 >>> ((48 : Int32).toInt64.toUInt64 &&& Int64.toUInt64 63)).toInt64) hx hb dX11_type_15 rfl ?_
        refine lv_ldc2 (v := 255) hx hb hown (ht _ zw_544) dX11_type_16 ?_
        refine lv_land hx hb dX11_type_19 ?_
        refine lv_lconst (v := 0) hx hb dX11_type_20 (by decide) ?_
        refine W.lcmp hx hb dX11_type_21 ?_
        refine lv_if_eq (tgt := 29) hx hb dX11_type_22 (by decide) (fun c_67 => ?_) (fun c_67 => ?_)
        · skip
          refine lv_iconst (v := 0) hx hb dX11_type_29 (by decide) ?_
          exact hj_1 _ (by unfold zC; rw [if_pos (show zB p0 48 = 0 from (zcmp0 _).mp c_67)])
        · skip
          refine lv_iconst (v := 1) hx hb dX11_type_25 (by decide) ?_
          refine lv_goto (tgt := 30) hx hb dX11_type_26 (by decide) ?_
          exact hj_1 _ (by unfold zC; rw [if_neg (show ¬ zB p0 48 = 0 from fun q => c_67 ((zcmp0 _).mpr q))])
    refine lv_iload_n hx hb dX11_type_11 rfl (lv_at hl 1 rfl) ?_
    refine lv_lload_n hx hb dX11_type_12 rfl (lv_at hl 3 rfl) ?_
    refine lv_iload hx hb dX11_type_13 (lv_at hl 0 rfl) ?_
    refine lv_lushr (v := ((p0).toUInt64 >>> ((56 : Int32).toInt64.toUInt64 &&& Int64.toUInt64 63)).toInt64) hx hb dX11_type_15 rfl ?_
    refine lv_ldc2 (v := 255) hx hb hown (ht _ zw_544) dX11_type_16 ?_
    refine lv_land hx hb dX11_type_19 ?_
    refine lv_lconst (v := 0) hx hb dX11_type_20 (by decide) ?_
    refine W.lcmp hx hb dX11_type_21 ?_
    refine lv_if_eq (tgt := 29) hx hb dX11_type_22 (by decide) (fun c_68 => ?_) (fun c_68 => ?_)
    · skip
      refine lv_iconst (v := 0) hx hb dX11_type_29 (by decide) ?_
      exact hj_0 _ (by unfold zC; rw [if_pos (show zB p0 56 = 0 from (zcmp0 _).mp c_68)])
    · skip
      refine lv_iconst (v := 1) hx hb dX11_type_25 (by decide) ?_
      refine lv_goto (tgt := 30) hx hb dX11_type_26 (by decide) ?_
      exact hj_0 _ (by unfold zC; rw [if_neg (show ¬ zB p0 56 = 0 from fun q => c_68 ((zcmp0 _).mpr q))])
set_option maxHeartbeats 4000000 in
set_option maxRecDepth 100000 in
theorem k_J_bitCount (l : Launch) : Met l yJ_bitCount (.code yJ_bitCount cJ_bitCount 1 (some .int) :: zT) ({ frames := 0, cells := 0, slots := 0, locals := 0 }) (va_Pc [.int 1] (fun _ => True)) (vp_Si (fun r => r = 1)) 0 0 (fun _ => False) := by
  refine Met.ofW (cc := cJ_bitCount) (maxL := 1) (ret := (some .int)) (by decide) rfl ?_
  intro p e s m args below meth c s₁ B hml hv
  obtain ⟨rfl, -⟩ := hv
  have hx := B.exec
  have hb := B.bytes
  have hr := B.returns
  have hts := atoms_spec (ws := (.code yJ_bitCount cJ_bitCount 1 (some .int) :: zT)) B.pre
  have ht : ∀ w ∈ zT, w.before _ s = true := fun w h => hts w (List.mem_cons_of_mem _ h)
  have hown : s.vm.findClass RJ6 = some m.cls := findClass_of_methodNamed B.named
  have hlocks := B.notSynchronized
  have hl := lv_entry ([.int 1]) (n := 1) (Nat.le_of_ble_eq_true rfl)
  rw [lg_entry_eq]
  generalize (lg_sl ([.int 1]) ++ List.replicate (1 - (lg_sl ([.int 1])).length) Slot.unset).toArray = ls at hl ⊢
  have hl : lv_has ls 1 [(0, .int 1)] := hl
  skip
  refine lv_iload_n hx hb dJ_bitCount_0 rfl (lv_at hl 0 rfl) ?_
  refine lv_iload_n hx hb dJ_bitCount_1 rfl (lv_at hl 0 rfl) ?_
  refine lv_iconst (v := 1) hx hb dJ_bitCount_2 (by decide) ?_
  refine lv_iushr (v := 0) hx hb dJ_bitCount_3 (by decide) ?_
  refine lv_ldcw (v := 1431655765) hx hb hown (ht _ zw_549) dJ_bitCount_4 ?_
  refine lv_iand hx hb dJ_bitCount_7 ?_
  refine lv_topi (fun x_1 e_1 => ?_)
  obtain rfl : x_1 = 0 := e_1.trans (by decide)
  refine lv_isub hx hb dJ_bitCount_8 ?_
  refine lv_topi (fun x_2 e_2 => ?_)
  obtain rfl : x_2 = 1 := e_2.trans (by decide)
  refine lv_istore_n (lv' := [(0, .int 1)]) hx hb dJ_bitCount_9 rfl hl (by decide) rfl (fun ls hl => ?_)
  refine lv_iload_n hx hb dJ_bitCount_10 rfl (lv_at hl 0 rfl) ?_
  refine lv_ldcw (v := 858993459) hx hb hown (ht _ zw_550) dJ_bitCount_11 ?_
  refine lv_iand hx hb dJ_bitCount_14 ?_
  refine lv_topi (fun x_3 e_3 => ?_)
  obtain rfl : x_3 = 1 := e_3.trans (by decide)
  refine lv_iload_n hx hb dJ_bitCount_15 rfl (lv_at hl 0 rfl) ?_
  refine lv_iconst (v := 2) hx hb dJ_bitCount_16 (by decide) ?_
  refine lv_iushr (v := 0) hx hb dJ_bitCount_17 (by decide) ?_
  refine lv_ldcw (v := 858993459) hx hb hown (ht _ zw_550) dJ_bitCount_18 ?_
  refine lv_iand hx hb dJ_bitCount_21 ?_
  refine lv_topi (fun x_4 e_4 => ?_)
  obtain rfl : x_4 = 0 := e_4.trans (by decide)
  refine lv_iadd hx hb dJ_bitCount_22 ?_
  refine lv_topi (fun x_5 e_5 => ?_)
  obtain rfl : x_5 = 1 := e_5.trans (by decide)
  refine lv_istore_n (lv' := [(0, .int 1)]) hx hb dJ_bitCount_23 rfl hl (by decide) rfl (fun ls hl => ?_)
  refine lv_iload_n hx hb dJ_bitCount_24 rfl (lv_at hl 0 rfl) ?_
  refine lv_iload_n hx hb dJ_bitCount_25 rfl (lv_at hl 0 rfl) ?_
  refine lv_iconst (v := 4) hx hb dJ_bitCount_26 (by decide) ?_
  refine lv_iushr (v := 0) hx hb dJ_bitCount_27 (by decide) ?_
  refine lv_iadd hx hb dJ_bitCount_28 ?_
  refine lv_topi (fun x_6 e_6 => ?_)
  obtain rfl : x_6 = 1 := e_6.trans (by decide)
  refine lv_ldcw (v := 252645135) hx hb hown (ht _ zw_551) dJ_bitCount_29 ?_
  refine lv_iand hx hb dJ_bitCount_32 ?_
  refine lv_topi (fun x_7 e_7 => ?_)
  obtain rfl : x_7 = 1 := e_7.trans (by decide)
  refine lv_istore_n (lv' := [(0, .int 1)]) hx hb dJ_bitCount_33 rfl hl (by decide) rfl (fun ls hl => ?_)
  refine lv_iload_n hx hb dJ_bitCount_34 rfl (lv_at hl 0 rfl) ?_
  refine lv_iload_n hx hb dJ_bitCount_35 rfl (lv_at hl 0 rfl) ?_
  refine lv_bipush (v := 8) hx hb dJ_bitCount_36 (by decide) ?_
  refine lv_iushr (v := 0) hx hb dJ_bitCount_38 (by decide) ?_
  refine lv_iadd hx hb dJ_bitCount_39 ?_
  refine lv_topi (fun x_8 e_8 => ?_)
  obtain rfl : x_8 = 1 := e_8.trans (by decide)
  refine lv_istore_n (lv' := [(0, .int 1)]) hx hb dJ_bitCount_40 rfl hl (by decide) rfl (fun ls hl => ?_)
  refine lv_iload_n hx hb dJ_bitCount_41 rfl (lv_at hl 0 rfl) ?_
  refine lv_iload_n hx hb dJ_bitCount_42 rfl (lv_at hl 0 rfl) ?_
  refine lv_bipush (v := 16) hx hb dJ_bitCount_43 (by decide) ?_
  refine lv_iushr (v := 0) hx hb dJ_bitCount_45 (by decide) ?_
  refine lv_iadd hx hb dJ_bitCount_46 ?_
  refine lv_topi (fun x_9 e_9 => ?_)
  obtain rfl : x_9 = 1 := e_9.trans (by decide)
  refine lv_istore_n (lv' := [(0, .int 1)]) hx hb dJ_bitCount_47 rfl hl (by decide) rfl (fun ls hl => ?_)
  refine lv_iload_n hx hb dJ_bitCount_48 rfl (lv_at hl 0 rfl) ?_
  refine lv_bipush (v := 63) hx hb dJ_bitCount_49 (by decide) ?_
  refine lv_iand hx hb dJ_bitCount_51 ?_
  refine lv_topi (fun x_10 e_10 => ?_)
  obtain rfl : x_10 = 1 := e_10.trans (by decide)
  refine W.widen (k := 0) (n := 0) (Nat.le_of_ble_eq_true rfl) (Nat.le_of_ble_eq_true rfl) ?_
  exact W.iret (v := 1) hx hb hr (fun t ht hW => ⟨1, rfl, rfl, ht⟩) (fun q h => nomatch h) dJ_bitCount_52
set_option maxHeartbeats 4000000 in
set_option maxRecDepth 100000 in
theorem k_X5_wordsInUse_65536 (l : Launch) (D : va_G) (h cs : Nat → Nat) (st : Int32) : Met l yX5_wordsInUse (.code yX5_wordsInUse cX5_wordsInUse 1 (some .int) :: zT) ({ frames := 1, cells := 0, slots := 0, locals := 21 }) (va_Pc [.ref (h 48)] (zR D [((h 48), .inr (5, [.ref (h 49), .ref (h 50), .ref (h 88), .ref (h 89), .ref (h 90), .int st, .int 65536, .null, .null, .int 0]))] [])) (vp_Si (fun r => r = 2048)) 0 0 (fun _ => False) := by
  refine Met.ofW (cc := cX5_wordsInUse) (maxL := 1) (ret := (some .int)) (by decide) rfl ?_
  intro p e s m args below meth c s₁ B hml hv
  obtain ⟨rfl, hP, hK⟩ := hv
  have hx := B.exec
  have hb := B.bytes
  have hr := B.returns
  have hts := atoms_spec (ws := (.code yX5_wordsInUse cX5_wordsInUse 1 (some .int) :: zT)) B.pre
  have ht : ∀ w ∈ zT, w.before _ s = true := fun w h => hts w (List.mem_cons_of_mem _ h)
  have hown : s.vm.findClass RX5 = some m.cls := findClass_of_methodNamed B.named
  have hlocks := B.notSynchronized
  have hl := lv_entry ([.ref (h 48)]) (n := 1) (Nat.le_of_ble_eq_true rfl)
  rw [lg_entry_eq]
  generalize (lg_sl ([.ref (h 48)]) ++ List.replicate (1 - (lg_sl ([.ref (h 48)])).length) Slot.unset).toArray = ls at hl ⊢
  have hl : lv_has ls 1 [(0, .ref (h 48))] := hl
  skip
  refine lv_aload_n hx hb dX5_wordsInUse_0 rfl (lv_at hl 0 rfl) ?_
  refine va_get (D := D) (ci := 5) (v := .int 65536) (C := RX5) (T := TX5) (N := 10) hx hb ht zinX5 hown hK hP 0 rfl rfl 6 (by decide) (ht _ zw_327) (fun _ h9 => h9) rfl dX5_wordsInUse_1 ?_
  refine lv_bipush (v := 31) hx hb dX5_wordsInUse_4 (by decide) ?_
  refine lv_iadd hx hb dX5_wordsInUse_6 ?_
  refine lv_topi (fun x_1 e_1 => ?_)
  obtain rfl : x_1 = 65567 := e_1.trans (by decide)
  refine lv_iconst (v := 5) hx hb dX5_wordsInUse_7 (by decide) ?_
  refine lv_ishr hx hb dX5_wordsInUse_8 ?_
  refine lv_topi (fun x_2 e_2 => ?_)
  obtain rfl : x_2 = 2048 := e_2.trans (by decide)
  refine lv_sipush (v := 2048) hx hb dX5_wordsInUse_9 (by decide) ?_
  refine va_mmin hx hb (hml.trans hl.1.symm) hown (ht _ zw_552) (ht _ zw_476) (ht _ zw_477) (ht _ zw_478) (Nat.le_of_ble_eq_true rfl) (Nat.le_of_ble_eq_true rfl) (Nat.le_of_ble_eq_true rfl) (Nat.le_of_ble_eq_true rfl) dX5_wordsInUse_12 ?_
  refine lv_topi (fun x_3 e_3 => ?_)
  obtain rfl : x_3 = 2048 := e_3.trans (by decide)
  refine W.widen (k := 0) (n := 0) (Nat.le_of_ble_eq_true rfl) (Nat.le_of_ble_eq_true rfl) ?_
  exact W.iret (v := 2048) hx hb hr (fun t ht hW => ⟨2048, rfl, rfl, ht⟩) (fun q h => nomatch h) dX5_wordsInUse_15
set_option maxHeartbeats 4000000 in
set_option maxRecDepth 100000 in
theorem k_X5_wordsInUse_1 (l : Launch) (D : va_G) (h cs : Nat → Nat) (st : Int32) : Met l yX5_wordsInUse (.code yX5_wordsInUse cX5_wordsInUse 1 (some .int) :: zT) ({ frames := 1, cells := 0, slots := 0, locals := 21 }) (va_Pc [.ref (h 48)] (zR D [((h 48), .inr (5, [.ref (h 49), .ref (h 50), .ref (h 88), .ref (h 89), .ref (h 90), .int st, .int 1, .null, .null, .int 0]))] [])) (vp_Si (fun r => r = 1)) 0 0 (fun _ => False) := by
  refine Met.ofW (cc := cX5_wordsInUse) (maxL := 1) (ret := (some .int)) (by decide) rfl ?_
  intro p e s m args below meth c s₁ B hml hv
  obtain ⟨rfl, hP, hK⟩ := hv
  have hx := B.exec
  have hb := B.bytes
  have hr := B.returns
  have hts := atoms_spec (ws := (.code yX5_wordsInUse cX5_wordsInUse 1 (some .int) :: zT)) B.pre
  have ht : ∀ w ∈ zT, w.before _ s = true := fun w h => hts w (List.mem_cons_of_mem _ h)
  have hown : s.vm.findClass RX5 = some m.cls := findClass_of_methodNamed B.named
  have hlocks := B.notSynchronized
  have hl := lv_entry ([.ref (h 48)]) (n := 1) (Nat.le_of_ble_eq_true rfl)
  rw [lg_entry_eq]
  generalize (lg_sl ([.ref (h 48)]) ++ List.replicate (1 - (lg_sl ([.ref (h 48)])).length) Slot.unset).toArray = ls at hl ⊢
  have hl : lv_has ls 1 [(0, .ref (h 48))] := hl
  skip
  refine lv_aload_n hx hb dX5_wordsInUse_0 rfl (lv_at hl 0 rfl) ?_
  refine va_get (D := D) (ci := 5) (v := .int 1) (C := RX5) (T := TX5) (N := 10) hx hb ht zinX5 hown hK hP 0 rfl rfl 6 (by decide) (ht _ zw_327) (fun _ h9 => h9) rfl dX5_wordsInUse_1 ?_
  refine lv_bipush (v := 31) hx hb dX5_wordsInUse_4 (by decide) ?_
  refine lv_iadd hx hb dX5_wordsInUse_6 ?_
  refine lv_topi (fun x_1 e_1 => ?_)
  obtain rfl : x_1 = 32 := e_1.trans (by decide)
  refine lv_iconst (v := 5) hx hb dX5_wordsInUse_7 (by decide) ?_
  refine lv_ishr hx hb dX5_wordsInUse_8 ?_
  refine lv_topi (fun x_2 e_2 => ?_)
  obtain rfl : x_2 = 1 := e_2.trans (by decide)
  refine lv_sipush (v := 2048) hx hb dX5_wordsInUse_9 (by decide) ?_
  refine va_mmin hx hb (hml.trans hl.1.symm) hown (ht _ zw_552) (ht _ zw_476) (ht _ zw_477) (ht _ zw_478) (Nat.le_of_ble_eq_true rfl) (Nat.le_of_ble_eq_true rfl) (Nat.le_of_ble_eq_true rfl) (Nat.le_of_ble_eq_true rfl) dX5_wordsInUse_12 ?_
  refine lv_topi (fun x_3 e_3 => ?_)
  obtain rfl : x_3 = 1 := e_3.trans (by decide)
  refine W.widen (k := 0) (n := 0) (Nat.le_of_ble_eq_true rfl) (Nat.le_of_ble_eq_true rfl) ?_
  exact W.iret (v := 1) hx hb hr (fun t ht hW => ⟨1, rfl, rfl, ht⟩) (fun q h => nomatch h) dX5_wordsInUse_15
set_option maxHeartbeats 4000000 in
set_option maxRecDepth 100000 in
theorem k_X5_clear (l : Launch) (sz : Nat) (D : va_G) (h cs : Nat → Nat) : Met l yX5_clear (.code yX5_clear cX5_clear 4 none :: zT) ({ frames := 2, cells := 0, slots := 0, locals := 41 }) (va_Pc [.ref (h 48), .ref (h 49)] (zM D [((h 48), .inr (5, [.ref (h 49), .ref (h 50), .ref (h 88), .ref (h 89), .ref (h 90), .int 0, .int 65536, .null, .null, .int 0])), ((h 49), .inl ((cs 13), 2048, .inl zI0))] [((cs 13), .int)] sz)) (va_Qv (fun (_ : Unit) => True) (fun _ t => zE D [((h 48), .inr (5, [.ref (h 49), .ref (h 50), .ref (h 88), .ref (h 89), .ref (h 90), .int 0, .int 65536, .null, .null, .int 0])), ((h 49), .inl ((cs 13), 2048, .inl zI0))] [] (va_A [((h 48), .inr (5, [.ref (h 49), .ref (h 50), .ref (h 88), .ref (h 89), .ref (h 90), .int 0, .int 65536, .null, .null, .int 0])), ((h 49), .inl ((cs 13), 2048, .inl zI0))] sz) t) (va_A [((h 48), .inr (5, [.ref (h 49), .ref (h 50), .ref (h 88), .ref (h 89), .ref (h 90), .int 0, .int 65536, .null, .null, .int 0])), ((h 49), .inl ((cs 13), 2048, .inl zI0))] sz)) 0 0 (va_A [((h 48), .inr (5, [.ref (h 49), .ref (h 50), .ref (h 88), .ref (h 89), .ref (h 90), .int 0, .int 65536, .null, .null, .int 0])), ((h 49), .inl ((cs 13), 2048, .inl zI0))] sz) := by
  refine Met.ofW (cc := cX5_clear) (maxL := 4) (ret := none) (by decide) rfl ?_
  intro p e s m args below meth c s₁ B hml hv
  obtain ⟨rfl, hsz, hP, hK, hD0⟩ := hv
  have hx := B.exec
  have hb := B.bytes
  have hr := B.returns
  have hts := atoms_spec (ws := (.code yX5_clear cX5_clear 4 none :: zT)) B.pre
  have ht : ∀ w ∈ zT, w.before _ s = true := fun w h => hts w (List.mem_cons_of_mem _ h)
  have hown : s.vm.findClass RX5 = some m.cls := findClass_of_methodNamed B.named
  have hlocks := B.notSynchronized
  subst hsz
  have hD := hD0.self (sz := s.heap.size)
  generalize hAe : va_A [((h 48), .inr (5, [.ref (h 49), .ref (h 50), .ref (h 88), .ref (h 89), .ref (h 90), .int 0, .int 65536, .null, .null, .int 0])), ((h 49), .inl ((cs 13), 2048, .inl zI0))] s.heap.size = A at hD ⊢
  have hA : ∀ q : Nat, s.heap.size ≤ q → A q := fun q h => by rw [← hAe]; exact Or.inr h
  have hS : va_S A s.heap s.heap [] := va_S.rf
  have hP : va_P D vwCl [((h 48), .inr (5, [.ref (h 49), .ref (h 50), .ref (h 88), .ref (h 89), .ref (h 90), .int 0, .int 65536, .null, .null, .int 0])), ((h 49), .inl ((cs 13), 2048, .inl zI0))] s.heap := hP
  have hl := lv_entry ([.ref (h 48), .ref (h 49)]) (n := 4) (Nat.le_of_ble_eq_true rfl)
  rw [lg_entry_eq]
  generalize (lg_sl ([.ref (h 48), .ref (h 49)]) ++ List.replicate (4 - (lg_sl ([.ref (h 48), .ref (h 49)])).length) Slot.unset).toArray = ls at hl ⊢
  have hl : lv_has ls 4 [(0, .ref (h 48)), (1, .ref (h 49))] := hl
  skip
  refine lv_aload_n hx hb dX5_clear_0 rfl (lv_at hl 0 rfl) ?_
  refine vp_callSi (va_runV (As := []) (rest := []) ⟨hx, hb, hml, hown, ht⟩ (k_X5_wordsInUse_65536 l D h cs 0) (cwV 0 ht (zG_V zw_553 zw_554 zw_555 zw_387 zw_556) rfl rfl rfl (by decide +kernel) ⟨Nat.le_of_ble_eq_true rfl, Nat.le_of_ble_eq_true rfl⟩) (zR_V (va_recv hK hP (ci := 5) (q0 := 0) rfl rfl) (hP.sub (ws' := [((h 48), .inr (5, [.ref (h 49), .ref (h 50), .ref (h 88), .ref (h 89), .ref (h 90), .int 0, .int 65536, .null, .null, .int 0]))]) [0] rfl) (hK.sub (tys' := []) [] rfl)) rfl rfl hl.1 rfl (lv_room (Nat.le_of_ble_eq_true rfl)) dX5_clear_1 ⟨Nat.le_of_ble_eq_true rfl, Nat.le_of_ble_eq_true rfl⟩).run (fun r_1 hw_1 => ?_)
  obtain rfl : r_1 = 2048 := hw_1
  refine lv_istore_n (lv' := [(2, .int 2048), (0, .ref (h 48)), (1, .ref (h 49))]) hx hb dX5_clear_4 rfl hl (by decide) rfl (fun ls hl => ?_)
  refine lv_iconst (v := 0) hx hb dX5_clear_5 (by decide) ?_
  refine lv_istore_n (lv' := [(3, .int 0), (2, .int 2048), (0, .ref (h 48)), (1, .ref (h 49))]) hx hb dX5_clear_6 rfl hl (by decide) rfl (fun ls hl => ?_)
  have hloop_2 : ∀ (n_2 : Nat) (x3 : Int32), 0 ≤ x3.toInt → x3.toInt ≤ 2048 → 2048 - x3.toInt < n_2 → ∀ (H : Heap) (locs : List Loc), va_P D vwCl [((h 48), .inr (5, [.ref (h 49), .ref (h 50), .ref (h 88), .ref (h 89), .ref (h 90), .int 0, .int 65536, .null, .null, .int 0])), ((h 49), .inl ((cs 13), 2048, .inl zI0))] H → va_D A [((h 48), .inr (5, [.ref (h 49), .ref (h 50), .ref (h 88), .ref (h 89), .ref (h 90), .int 0, .int 65536, .null, .null, .int 0])), ((h 49), .inl ((cs 13), 2048, .inl zI0))] → va_S A s.heap H locs → ∀ (ls : Array Slot), lv_has ls 4 [(3, .int x3), (2, .int 2048), (0, .ref (h 48)), (1, .ref (h 49))] → W p l e (headSpec (.code yX5_clear cX5_clear 4 none :: zT) ({ frames := 2, cells := 0, slots := 0, locals := 41 })).room s m (([.ref (h 48), .ref (h 49)] : List Value)).toArray below meth c H locs 0 0 (MQ below (va_Qv (fun (_ : Unit) => True) (fun _ t => zE D [((h 48), .inr (5, [.ref (h 49), .ref (h 50), .ref (h 88), .ref (h 89), .ref (h 90), .int 0, .int 65536, .null, .null, .int 0])), ((h 49), .inl ((cs 13), 2048, .inl zI0))] [] A t) A) (([.ref (h 48), .ref (h 49)] : List Value)).toArray s 0 0 A) (F0 m 7 ls []) := by
    intro n_2
    induction n_2 with
    | zero => intro x3 hx0 hx1 hx2; intros; exfalso; omega
    | succ n_2 ih_2 =>
      intro x3 hlo_2 hhi_2 hms_2 H locs hP hD hS ls hl
      refine lv_iload_n hx hb dX5_clear_7 rfl (lv_at hl 0 rfl) ?_
      refine lv_iload_n hx hb dX5_clear_8 rfl (lv_at hl 1 rfl) ?_
      refine lv_icmp_ge (tgt := 22) hx hb dX5_clear_9 (by decide) (fun c_3 => ?_) (fun c_3 => ?_)
      · skip
        simp only [fa_lt, fa_le, fa_eq, Int32.reduceToInt] at c_3
        have hP9 := hP.sub (ws' := [((h 48), .inr (5, [.ref (h 49), .ref (h 50), .ref (h 88), .ref (h 89), .ref (h 90), .int 0, .int 65536, .null, .null, .int 0])), ((h 49), .inl ((cs 13), 2048, .inl zI0))]) [0, 1] rfl
        have hD9 := hD.sub (ws' := [((h 48), .inr (5, [.ref (h 49), .ref (h 50), .ref (h 88), .ref (h 89), .ref (h 90), .int 0, .int 65536, .null, .null, .int 0])), ((h 49), .inl ((cs 13), 2048, .inl zI0))]) [0, 1] (by decide) rfl
        have hK9 := hK.sub (tys' := []) [] rfl
        refine W.widen (k := 0) (n := 0) (Nat.le_of_ble_eq_true rfl) (Nat.le_of_ble_eq_true rfl) ?_
        exact W.vret hx hb hr (fun t ht0 hW => ⟨⟨(), rfl, trivial, (zE_of hP9 hK9 hD9 ht0 hW)⟩, hS.F ht0⟩) hS.2.2 dX5_clear_22
      · skip
        simp only [fa_lt, fa_le, fa_eq, Int32.reduceToInt] at c_3
        refine lv_aload_n hx hb dX5_clear_12 rfl (lv_at hl 3 rfl) ?_
        refine lv_iload_n hx hb dX5_clear_13 rfl (lv_at hl 0 rfl) ?_
        refine lv_iconst (v := 0) hx hb dX5_clear_14 (by decide) ?_
        refine va_iast hx hb hK hP hD hS 1 0 rfl rfl (vp_in_iff.mpr ⟨by omega, by omega⟩) dX5_clear_15 (fun H locs hP hD hS => ?_)
        have hP : va_P D vwCl [((h 48), .inr (5, [.ref (h 49), .ref (h 50), .ref (h 88), .ref (h 89), .ref (h 90), .int 0, .int 65536, .null, .null, .int 0])), ((h 49), .inl ((cs 13), 2048, .inl (upd zI0 x3.toNatClampNeg 0)))] H := hP
        have hD : va_D A [((h 48), .inr (5, [.ref (h 49), .ref (h 50), .ref (h 88), .ref (h 89), .ref (h 90), .int 0, .int 65536, .null, .null, .int 0])), ((h 49), .inl ((cs 13), 2048, .inl (upd zI0 x3.toNatClampNeg 0)))] := hD
        rw [zupd0] at hP hD
        have hP : va_P D vwCl [((h 48), .inr (5, [.ref (h 49), .ref (h 50), .ref (h 88), .ref (h 89), .ref (h 90), .int 0, .int 65536, .null, .null, .int 0])), ((h 49), .inl ((cs 13), 2048, .inl zI0))] H := hP
        have hD : va_D A [((h 48), .inr (5, [.ref (h 49), .ref (h 50), .ref (h 88), .ref (h 89), .ref (h 90), .int 0, .int 65536, .null, .null, .int 0])), ((h 49), .inl ((cs 13), 2048, .inl zI0))] := hD
        obtain ⟨x_4, e_4⟩ : ∃ y : Int32, y = x3 + 1 := ⟨_, rfl⟩
        refine lv_iinc (v := x_4) (lv' := [(3, .int x_4), (2, .int 2048), (0, .ref (h 48)), (1, .ref (h 49))]) hx hb dX5_clear_16 hl (k := 0) rfl (by rw [e_4]; rfl) (by decide) rfl (fun ls hl => ?_)
        refine lv_goto (tgt := 7) hx hb dX5_clear_19 (by decide) ?_
        have hinc_5 : x_4.toInt = x3.toInt + 1 := by rw [e_4]; exact zinc (by omega)
        exact ih_2 x_4 (by omega) (by omega) (by omega)  _ _ hP hD hS ls (lv_sub hl [0, 1, 2, 3] rfl)
  refine hloop_2 2049 0 (by decide) (by decide) (by decide)  _ _ hP hD hS ls (lv_sub hl [0, 1, 2, 3] rfl)
set_option maxHeartbeats 4000000 in
set_option maxRecDepth 100000 in
theorem k_X5_strikeTold (l : Launch) (D : va_G) (h cs : Nat → Nat) : Met l yX5_strikeTold (.code yX5_strikeTold cX5_strikeTold 6 none :: zT) ({ frames := 0, cells := 0, slots := 0, locals := 0 }) (va_Pc [.ref (h 48), .ref (h 1), .int 0] (zR D [((h 1), .inr (8, [.ref (h 2), .int 0, .ref (h 3), .ref (h 4), .int 0, .ref (h 5), .int 0, .ref (h 6), .int 0, .ref (h 7), .int 0])), ((h 4), .inl ((cs 4), 100, .inr (.inr (.inr (.inr (fun _ => none))))))] [((cs 4), .object RX4)])) (va_Sv (fun _ => True)) 0 0 (fun _ => False) := by
  refine Met.ofW (cc := cX5_strikeTold) (maxL := 6) (ret := none) (by decide) rfl ?_
  intro p e s m args below meth c s₁ B hml hv
  obtain ⟨rfl, hP, hK⟩ := hv
  have hx := B.exec
  have hb := B.bytes
  have hr := B.returns
  have hts := atoms_spec (ws := (.code yX5_strikeTold cX5_strikeTold 6 none :: zT)) B.pre
  have ht : ∀ w ∈ zT, w.before _ s = true := fun w h => hts w (List.mem_cons_of_mem _ h)
  have hown : s.vm.findClass RX5 = some m.cls := findClass_of_methodNamed B.named
  have hlocks := B.notSynchronized
  have hl := lv_entry ([.ref (h 48), .ref (h 1), .int 0]) (n := 6) (Nat.le_of_ble_eq_true rfl)
  rw [lg_entry_eq]
  generalize (lg_sl ([.ref (h 48), .ref (h 1), .int 0]) ++ List.replicate (6 - (lg_sl ([.ref (h 48), .ref (h 1), .int 0])).length) Slot.unset).toArray = ls at hl ⊢
  have hl : lv_has ls 6 [(0, .ref (h 48)), (1, .ref (h 1)), (2, .int 0)] := hl
  skip
  refine lv_iconst (v := 0) hx hb dX5_strikeTold_0 (by decide) ?_
  refine lv_istore_n (lv' := [(3, .int 0), (0, .ref (h 48)), (1, .ref (h 1)), (2, .int 0)]) hx hb dX5_strikeTold_1 rfl hl (by decide) rfl (fun ls hl => ?_)
  have hloop_1 : ∀ (n_1 : Nat) (x3 : Int32), 0 ≤ x3.toInt → x3.toInt ≤ 100 → 100 - x3.toInt < n_1 → ∀ (ls : Array Slot), lv_has ls 6 [(3, .int x3), (0, .ref (h 48)), (1, .ref (h 1)), (2, .int 0)] → W p l e (headSpec (.code yX5_strikeTold cX5_strikeTold 6 none :: zT) ({ frames := 0, cells := 0, slots := 0, locals := 0 })).room s m (([.ref (h 48), .ref (h 1), .int 0] : List Value)).toArray below meth c s.heap [] 0 0 (MQ below (va_Sv (fun _ => True)) (([.ref (h 48), .ref (h 1), .int 0] : List Value)).toArray s 0 0 (fun _ => False)) (F0 m 2 ls []) := by
    intro n_1
    induction n_1 with
    | zero => intro x3 hx0 hx1 hx2; intros; exfalso; omega
    | succ n_1 ih_1 =>
      intro x3 hlo_1 hhi_1 hms_1 ls hl
      refine lv_iload_n hx hb dX5_strikeTold_2 rfl (lv_at hl 0 rfl) ?_
      refine lv_bipush (v := 100) hx hb dX5_strikeTold_3 (by decide) ?_
      refine lv_icmp_ge (tgt := 58) hx hb dX5_strikeTold_5 (by decide) (fun c_2 => ?_) (fun c_2 => ?_)
      · skip
        simp only [fa_lt, fa_le, fa_eq, Int32.reduceToInt] at c_2
        refine lv_iconst (v := 0) hx hb dX5_strikeTold_58 (by decide) ?_
        refine lv_istore_n (lv' := [(3, .int 0), (0, .ref (h 48)), (1, .ref (h 1)), (2, .int 0)]) hx hb dX5_strikeTold_59 rfl hl (by decide) rfl (fun ls hl => ?_)
        refine lv_iload_n hx hb dX5_strikeTold_60 rfl (lv_at hl 0 rfl) ?_
        refine lv_aload_n hx hb dX5_strikeTold_61 rfl (lv_at hl 2 rfl) ?_
        refine va_get (D := D) (ci := 8) (v := .int 0) (C := RX8) (T := TX8) (N := 11) hx hb ht zinX8 hown hK hP 0 rfl rfl 6 (by decide) (ht _ zw_557) (fun _ h9 => h9) rfl dX5_strikeTold_62 ?_
        refine lv_icmp_ge (tgt := 126) hx hb dX5_strikeTold_65 (by decide) (fun c_3 => ?_) (fun c_3 => ?_)
        · skip
          refine W.widen (k := 0) (n := 0) (Nat.le_of_ble_eq_true rfl) (Nat.le_of_ble_eq_true rfl) ?_
          exact W.vret hx hb hr (fun t ht hW => ⟨rfl, trivial, ht⟩) (fun q h => nomatch h) dX5_strikeTold_126
        · skip
          exact absurd c_3 (by decide)
      · skip
        simp only [fa_lt, fa_le, fa_eq, Int32.reduceToInt] at c_2
        refine lv_aload_n hx hb dX5_strikeTold_8 rfl (lv_at hl 2 rfl) ?_
        refine va_get (D := D) (ci := 8) (v := .ref (h 4)) (C := RX8) (T := TX8) (N := 11) hx hb ht zinX8 hown hK hP 0 rfl rfl 3 (by decide) (ht _ zw_558) (fun _ h9 => h9) rfl dX5_strikeTold_9 ?_
        refine lv_iload_n hx hb dX5_strikeTold_12 rfl (lv_at hl 0 rfl) ?_
        refine va_aldq hx hb hK hP 1 0 rfl rfl (vp_in_iff.mpr ⟨by omega, by omega⟩) dX5_strikeTold_13 ?_
        refine W.eq (g2 := F0 m 14 ls (.null :: [])) rfl ?_
        refine lv_astoreN (lv' := [(4, .null), (3, .int x3), (0, .ref (h 48)), (1, .ref (h 1)), (2, .int 0)]) hx hb dX5_strikeTold_14 hl (by decide) rfl (fun ls hl => ?_)
        refine lv_aloadN hx hb dX5_strikeTold_16 (lv_at hl 0 rfl) ?_
        refine lv_ifnullN (tgt := 52) hx hb dX5_strikeTold_18 (by decide) ?_
        obtain ⟨x_5, e_5⟩ : ∃ y : Int32, y = x3 + 1 := ⟨_, rfl⟩
        refine lv_iinc (v := x_5) (lv' := [(3, .int x_5), (4, .null), (0, .ref (h 48)), (1, .ref (h 1)), (2, .int 0)]) hx hb dX5_strikeTold_52 hl (k := 1) rfl (by rw [e_5]; rfl) (by decide) rfl (fun ls hl => ?_)
        refine lv_goto (tgt := 2) hx hb dX5_strikeTold_55 (by decide) ?_
        have hinc_6 : x_5.toInt = x3.toInt + 1 := by rw [e_5]; exact zinc (by omega)
        exact ih_1 x_5 (by omega) (by omega) (by omega)   ls (lv_sub hl [0, 2, 3, 4] rfl)
  refine hloop_1 101 0 (by decide) (by decide) (by decide)   ls (lv_sub hl [0, 1, 2, 3] rfl)
set_option maxHeartbeats 4000000 in
set_option maxRecDepth 100000 in
theorem k_X5_renew (l : Launch) (sz : Nat) (D : va_G) (h cs : Nat → Nat) : Met l yX5_renew (.code yX5_renew cX5_renew 3 none :: zT) ({ frames := 3, cells := 0, slots := 0, locals := 64 }) (va_Pc [.ref (h 48), .ref (h 1)] (zM D [((h 1), .inr (8, [.ref (h 2), .int 0, .ref (h 3), .ref (h 4), .int 0, .ref (h 5), .int 0, .ref (h 6), .int 0, .ref (h 7), .int 0])), ((h 4), .inl ((cs 4), 100, .inr (.inr (.inr (.inr (fun _ => none)))))), ((h 48), .inr (5, [.ref (h 49), .ref (h 50), .ref (h 88), .ref (h 89), .ref (h 90), .int (-1), .int 1, .null, .null, .int 0])), ((h 49), .inl ((cs 13), 2048, .inl zI0))] [((cs 4), .object RX4), ((cs 13), .int)] sz)) (va_Qv (fun (_ : Unit) => True) (fun _ t => zE D [((h 1), .inr (8, [.ref (h 2), .int 0, .ref (h 3), .ref (h 4), .int 0, .ref (h 5), .int 0, .ref (h 6), .int 0, .ref (h 7), .int 0])), ((h 4), .inl ((cs 4), 100, .inr (.inr (.inr (.inr (fun _ => none)))))), ((h 48), .inr (5, [.ref (h 49), .ref (h 50), .ref (h 88), .ref (h 89), .ref (h 90), .int 0, .int 1, .null, .null, .int 0])), ((h 49), .inl ((cs 13), 2048, .inl (upd zI0 0 1)))] [] (va_A [((h 1), .inr (8, [.ref (h 2), .int 0, .ref (h 3), .ref (h 4), .int 0, .ref (h 5), .int 0, .ref (h 6), .int 0, .ref (h 7), .int 0])), ((h 4), .inl ((cs 4), 100, .inr (.inr (.inr (.inr (fun _ => none)))))), ((h 48), .inr (5, [.ref (h 49), .ref (h 50), .ref (h 88), .ref (h 89), .ref (h 90), .int (-1), .int 1, .null, .null, .int 0])), ((h 49), .inl ((cs 13), 2048, .inl zI0))] sz) t) (va_A [((h 1), .inr (8, [.ref (h 2), .int 0, .ref (h 3), .ref (h 4), .int 0, .ref (h 5), .int 0, .ref (h 6), .int 0, .ref (h 7), .int 0])), ((h 4), .inl ((cs 4), 100, .inr (.inr (.inr (.inr (fun _ => none)))))), ((h 48), .inr (5, [.ref (h 49), .ref (h 50), .ref (h 88), .ref (h 89), .ref (h 90), .int (-1), .int 1, .null, .null, .int 0])), ((h 49), .inl ((cs 13), 2048, .inl zI0))] sz)) 0 0 (va_A [((h 1), .inr (8, [.ref (h 2), .int 0, .ref (h 3), .ref (h 4), .int 0, .ref (h 5), .int 0, .ref (h 6), .int 0, .ref (h 7), .int 0])), ((h 4), .inl ((cs 4), 100, .inr (.inr (.inr (.inr (fun _ => none)))))), ((h 48), .inr (5, [.ref (h 49), .ref (h 50), .ref (h 88), .ref (h 89), .ref (h 90), .int (-1), .int 1, .null, .null, .int 0])), ((h 49), .inl ((cs 13), 2048, .inl zI0))] sz) := by
  refine Met.ofW (cc := cX5_renew) (maxL := 3) (ret := none) (by decide) rfl ?_
  intro p e s m args below meth c s₁ B hml hv
  obtain ⟨rfl, hsz, hP, hK, hD0⟩ := hv
  have hx := B.exec
  have hb := B.bytes
  have hr := B.returns
  have hts := atoms_spec (ws := (.code yX5_renew cX5_renew 3 none :: zT)) B.pre
  have ht : ∀ w ∈ zT, w.before _ s = true := fun w h => hts w (List.mem_cons_of_mem _ h)
  have hown : s.vm.findClass RX5 = some m.cls := findClass_of_methodNamed B.named
  have hlocks := B.notSynchronized
  subst hsz
  have hD := hD0.self (sz := s.heap.size)
  generalize hAe : va_A [((h 1), .inr (8, [.ref (h 2), .int 0, .ref (h 3), .ref (h 4), .int 0, .ref (h 5), .int 0, .ref (h 6), .int 0, .ref (h 7), .int 0])), ((h 4), .inl ((cs 4), 100, .inr (.inr (.inr (.inr (fun _ => none)))))), ((h 48), .inr (5, [.ref (h 49), .ref (h 50), .ref (h 88), .ref (h 89), .ref (h 90), .int (-1), .int 1, .null, .null, .int 0])), ((h 49), .inl ((cs 13), 2048, .inl zI0))] s.heap.size = A at hD ⊢
  have hA : ∀ q : Nat, s.heap.size ≤ q → A q := fun q h => by rw [← hAe]; exact Or.inr h
  have hS : va_S A s.heap s.heap [] := va_S.rf
  have hP : va_P D vwCl [((h 1), .inr (8, [.ref (h 2), .int 0, .ref (h 3), .ref (h 4), .int 0, .ref (h 5), .int 0, .ref (h 6), .int 0, .ref (h 7), .int 0])), ((h 4), .inl ((cs 4), 100, .inr (.inr (.inr (.inr (fun _ => none)))))), ((h 48), .inr (5, [.ref (h 49), .ref (h 50), .ref (h 88), .ref (h 89), .ref (h 90), .int (-1), .int 1, .null, .null, .int 0])), ((h 49), .inl ((cs 13), 2048, .inl zI0))] s.heap := hP
  have hl := lv_entry ([.ref (h 48), .ref (h 1)]) (n := 3) (Nat.le_of_ble_eq_true rfl)
  rw [lg_entry_eq]
  generalize (lg_sl ([.ref (h 48), .ref (h 1)]) ++ List.replicate (3 - (lg_sl ([.ref (h 48), .ref (h 1)])).length) Slot.unset).toArray = ls at hl ⊢
  have hl : lv_has ls 3 [(0, .ref (h 48)), (1, .ref (h 1))] := hl
  skip
  refine lv_aload_n hx hb dX5_renew_0 rfl (lv_at hl 0 rfl) ?_
  refine va_get (D := D) (ci := 5) (v := .int (-1)) (C := RX5) (T := TX5) (N := 10) hx hb ht zinX5 hown hK hP 2 rfl rfl 5 (by decide) (ht _ zw_326) (fun _ h9 => h9) rfl dX5_renew_1 ?_
  refine lv_aload_n hx hb dX5_renew_4 rfl (lv_at hl 1 rfl) ?_
  refine va_get (D := D) (ci := 8) (v := .int 0) (C := RX8) (T := TX8) (N := 11) hx hb ht zinX8 hown hK hP 0 rfl rfl 10 (by decide) (ht _ zw_559) (fun _ h9 => h9) rfl dX5_renew_5 ?_
  refine lv_icmp_ne (tgt := 12) hx hb dX5_renew_8 (by decide) (fun c_1 => ?_) (fun c_1 => ?_)
  · skip
    refine lv_aload_n hx hb dX5_renew_12 rfl (lv_at hl 0 rfl) ?_
    refine lv_aload_n hx hb dX5_renew_13 rfl (lv_at hl 1 rfl) ?_
    refine va_get (D := D) (ci := 8) (v := .int 0) (C := RX8) (T := TX8) (N := 11) hx hb ht zinX8 hown hK hP 0 rfl rfl 10 (by decide) (ht _ zw_559) (fun _ h9 => h9) rfl dX5_renew_14 ?_
    refine va_put (D := D) (ci := 5) (v := .int 0) (ty := .int) (C := RX5) (T := TX5) (N := 10) hx hb ht zinX5 tyX5 tyX5_ok nmX5 hown hK hP hD hS 2 rfl rfl 5 (by decide) (ht _ zw_326) (fun _ h9 => h9) rfl (by decide +kernel) rfl rfl (Nat.le_of_ble_eq_true rfl) dX5_renew_17 (fun H locs hP hD hS => ?_)
    have hP : va_P D vwCl [((h 1), .inr (8, [.ref (h 2), .int 0, .ref (h 3), .ref (h 4), .int 0, .ref (h 5), .int 0, .ref (h 6), .int 0, .ref (h 7), .int 0])), ((h 4), .inl ((cs 4), 100, .inr (.inr (.inr (.inr (fun _ => none)))))), ((h 48), .inr (5, [.ref (h 49), .ref (h 50), .ref (h 88), .ref (h 89), .ref (h 90), .int 0, .int 1, .null, .null, .int 0])), ((h 49), .inl ((cs 13), 2048, .inl zI0))] H := hP
    have hD : va_D A [((h 1), .inr (8, [.ref (h 2), .int 0, .ref (h 3), .ref (h 4), .int 0, .ref (h 5), .int 0, .ref (h 6), .int 0, .ref (h 7), .int 0])), ((h 4), .inl ((cs 4), 100, .inr (.inr (.inr (.inr (fun _ => none)))))), ((h 48), .inr (5, [.ref (h 49), .ref (h 50), .ref (h 88), .ref (h 89), .ref (h 90), .int 0, .int 1, .null, .null, .int 0])), ((h 49), .inl ((cs 13), 2048, .inl zI0))] := hD
    refine lv_aload_n hx hb dX5_renew_20 rfl (lv_at hl 0 rfl) ?_
    refine lv_ldc (v := 65536) hx hb hown (ht _ zw_560) dX5_renew_21 ?_
    refine va_put (D := D) (ci := 5) (v := .int 65536) (ty := .int) (C := RX5) (T := TX5) (N := 10) hx hb ht zinX5 tyX5 tyX5_ok nmX5 hown hK hP hD hS 2 rfl rfl 6 (by decide) (ht _ zw_327) (fun _ h9 => h9) rfl (by decide +kernel) rfl rfl (Nat.le_of_ble_eq_true rfl) dX5_renew_23 (fun H locs hP hD hS => ?_)
    have hP : va_P D vwCl [((h 1), .inr (8, [.ref (h 2), .int 0, .ref (h 3), .ref (h 4), .int 0, .ref (h 5), .int 0, .ref (h 6), .int 0, .ref (h 7), .int 0])), ((h 4), .inl ((cs 4), 100, .inr (.inr (.inr (.inr (fun _ => none)))))), ((h 48), .inr (5, [.ref (h 49), .ref (h 50), .ref (h 88), .ref (h 89), .ref (h 90), .int 0, .int 65536, .null, .null, .int 0])), ((h 49), .inl ((cs 13), 2048, .inl zI0))] H := hP
    have hD : va_D A [((h 1), .inr (8, [.ref (h 2), .int 0, .ref (h 3), .ref (h 4), .int 0, .ref (h 5), .int 0, .ref (h 6), .int 0, .ref (h 7), .int 0])), ((h 4), .inl ((cs 4), 100, .inr (.inr (.inr (.inr (fun _ => none)))))), ((h 48), .inr (5, [.ref (h 49), .ref (h 50), .ref (h 88), .ref (h 89), .ref (h 90), .int 0, .int 65536, .null, .null, .int 0])), ((h 49), .inl ((cs 13), 2048, .inl zI0))] := hD
    refine lv_aload_n hx hb dX5_renew_26 rfl (lv_at hl 0 rfl) ?_
    refine lv_aload_n hx hb dX5_renew_27 rfl (lv_at hl 0 rfl) ?_
    refine va_get (D := D) (ci := 5) (v := .ref (h 49)) (C := RX5) (T := TX5) (N := 10) hx hb ht zinX5 hown hK hP 2 rfl rfl 0 (by decide) (ht _ zw_321) (fun _ h9 => h9) rfl dX5_renew_28 ?_
    have hPc := hP.sub (ws' := [((h 48), .inr (5, [.ref (h 49), .ref (h 50), .ref (h 88), .ref (h 89), .ref (h 90), .int 0, .int 65536, .null, .null, .int 0])), ((h 49), .inl ((cs 13), 2048, .inl zI0))]) [2, 3] rfl
    have hDc := hD.sub (ws' := [((h 48), .inr (5, [.ref (h 49), .ref (h 50), .ref (h 88), .ref (h 89), .ref (h 90), .int 0, .int 65536, .null, .null, .int 0])), ((h 49), .inl ((cs 13), 2048, .inl zI0))]) [2, 3] (by decide) rfl
    have hKc := hK.sub (tys' := [((cs 13), .int)]) [1] rfl
    have hFc := va_free (wc := [((h 48), .inr (5, [.ref (h 49), .ref (h 50), .ref (h 88), .ref (h 89), .ref (h 90), .int 0, .int 65536, .null, .null, .int 0])), ((h 49), .inl ((cs 13), 2048, .inl zI0))]) hD hS hA [2, 3] rfl
    refine va_callv (va_runV (As := [.ref (h 49)]) (rest := []) ⟨hx, hb, hml, hown, ht⟩ (k_X5_clear l _ D h cs) (cwV 1 ht (zG_V zw_561 zw_562 zw_563 zw_387 zw_564) rfl rfl rfl (by decide +kernel) ⟨Nat.le_of_ble_eq_true rfl, Nat.le_of_ble_eq_true rfl⟩) (zM_V (va_recv hK hP (ci := 5) (q0 := 2) rfl rfl) hPc hKc hDc) rfl rfl hl.1 rfl (lv_room (Nat.le_of_ble_eq_true rfl)) dX5_renew_31 ⟨Nat.le_of_ble_eq_true rfl, Nat.le_of_ble_eq_true rfl⟩) hS (fun q _ h => hFc q h) hFc (fun u_2 t H1 locs ht0 hvm hw_2 hB hz1 hk1 hS => ?_)
    obtain ⟨hP1, hK1, hD1⟩ := hB
    rw [ht0] at hP1
    have hK1 := va_K.moved hvm.symm hK1
    obtain ⟨hP, hD⟩ := va_join (wr := [((h 1), .inr (8, [.ref (h 2), .int 0, .ref (h 3), .ref (h 4), .int 0, .ref (h 5), .int 0, .ref (h 6), .int 0, .ref (h 7), .int 0])), ((h 4), .inl ((cs 4), 100, .inr (.inr (.inr (.inr (fun _ => none))))))]) (w1 := [((h 48), .inr (5, [.ref (h 49), .ref (h 50), .ref (h 88), .ref (h 89), .ref (h 90), .int 0, .int 65536, .null, .null, .int 0])), ((h 49), .inl ((cs 13), 2048, .inl zI0))]) hP hD [2, 3] [0, 1] rfl rfl (by decide) (by decide) hk1 hFc hP1 hD1
    generalize H1 = H at hP hS ⊢
    have hP : va_P D vwCl [((h 1), .inr (8, [.ref (h 2), .int 0, .ref (h 3), .ref (h 4), .int 0, .ref (h 5), .int 0, .ref (h 6), .int 0, .ref (h 7), .int 0])), ((h 4), .inl ((cs 4), 100, .inr (.inr (.inr (.inr (fun _ => none)))))), ((h 48), .inr (5, [.ref (h 49), .ref (h 50), .ref (h 88), .ref (h 89), .ref (h 90), .int 0, .int 65536, .null, .null, .int 0])), ((h 49), .inl ((cs 13), 2048, .inl zI0))] H := hP
    have hD : va_D A [((h 1), .inr (8, [.ref (h 2), .int 0, .ref (h 3), .ref (h 4), .int 0, .ref (h 5), .int 0, .ref (h 6), .int 0, .ref (h 7), .int 0])), ((h 4), .inl ((cs 4), 100, .inr (.inr (.inr (.inr (fun _ => none)))))), ((h 48), .inr (5, [.ref (h 49), .ref (h 50), .ref (h 88), .ref (h 89), .ref (h 90), .int 0, .int 65536, .null, .null, .int 0])), ((h 49), .inl ((cs 13), 2048, .inl zI0))] := hD
    refine lv_aload_n hx hb dX5_renew_34 rfl (lv_at hl 0 rfl) ?_
    refine lv_iconst (v := 1) hx hb dX5_renew_35 (by decide) ?_
    refine va_put (D := D) (ci := 5) (v := .int 1) (ty := .int) (C := RX5) (T := TX5) (N := 10) hx hb ht zinX5 tyX5 tyX5_ok nmX5 hown hK hP hD hS 2 rfl rfl 6 (by decide) (ht _ zw_327) (fun _ h9 => h9) rfl (by decide +kernel) rfl rfl (Nat.le_of_ble_eq_true rfl) dX5_renew_36 (fun H locs hP hD hS => ?_)
    have hP : va_P D vwCl [((h 1), .inr (8, [.ref (h 2), .int 0, .ref (h 3), .ref (h 4), .int 0, .ref (h 5), .int 0, .ref (h 6), .int 0, .ref (h 7), .int 0])), ((h 4), .inl ((cs 4), 100, .inr (.inr (.inr (.inr (fun _ => none)))))), ((h 48), .inr (5, [.ref (h 49), .ref (h 50), .ref (h 88), .ref (h 89), .ref (h 90), .int 0, .int 1, .null, .null, .int 0])), ((h 49), .inl ((cs 13), 2048, .inl zI0))] H := hP
    have hD : va_D A [((h 1), .inr (8, [.ref (h 2), .int 0, .ref (h 3), .ref (h 4), .int 0, .ref (h 5), .int 0, .ref (h 6), .int 0, .ref (h 7), .int 0])), ((h 4), .inl ((cs 4), 100, .inr (.inr (.inr (.inr (fun _ => none)))))), ((h 48), .inr (5, [.ref (h 49), .ref (h 50), .ref (h 88), .ref (h 89), .ref (h 90), .int 0, .int 1, .null, .null, .int 0])), ((h 49), .inl ((cs 13), 2048, .inl zI0))] := hD
    refine lv_aload_n hx hb dX5_renew_39 rfl (lv_at hl 0 rfl) ?_
    refine va_get (D := D) (ci := 5) (v := .ref (h 49)) (C := RX5) (T := TX5) (N := 10) hx hb ht zinX5 hown hK hP 2 rfl rfl 0 (by decide) (ht _ zw_321) (fun _ h9 => h9) rfl dX5_renew_40 ?_
    refine lv_iconst (v := 0) hx hb dX5_renew_43 (by decide) ?_
    refine lv_iconst (v := 1) hx hb dX5_renew_44 (by decide) ?_
    refine va_iast hx hb hK hP hD hS 3 1 rfl rfl (vp_in_iff.mpr (by decide)) dX5_renew_45 (fun H locs hP hD hS => ?_)
    have hP : va_P D vwCl [((h 1), .inr (8, [.ref (h 2), .int 0, .ref (h 3), .ref (h 4), .int 0, .ref (h 5), .int 0, .ref (h 6), .int 0, .ref (h 7), .int 0])), ((h 4), .inl ((cs 4), 100, .inr (.inr (.inr (.inr (fun _ => none)))))), ((h 48), .inr (5, [.ref (h 49), .ref (h 50), .ref (h 88), .ref (h 89), .ref (h 90), .int 0, .int 1, .null, .null, .int 0])), ((h 49), .inl ((cs 13), 2048, .inl (upd zI0 0 1)))] H := hP
    have hD : va_D A [((h 1), .inr (8, [.ref (h 2), .int 0, .ref (h 3), .ref (h 4), .int 0, .ref (h 5), .int 0, .ref (h 6), .int 0, .ref (h 7), .int 0])), ((h 4), .inl ((cs 4), 100, .inr (.inr (.inr (.inr (fun _ => none)))))), ((h 48), .inr (5, [.ref (h 49), .ref (h 50), .ref (h 88), .ref (h 89), .ref (h 90), .int 0, .int 1, .null, .null, .int 0])), ((h 49), .inl ((cs 13), 2048, .inl (upd zI0 0 1)))] := hD
    refine lv_aload_n hx hb dX5_renew_46 rfl (lv_at hl 0 rfl) ?_
    refine lv_aload_n hx hb dX5_renew_47 rfl (lv_at hl 1 rfl) ?_
    refine lv_iconst (v := 0) hx hb dX5_renew_48 (by decide) ?_
    refine va_csv (va_runV (As := [.ref (h 1), .int 0]) (rest := []) ⟨hx, hb, hml, hown, ht⟩ (k_X5_strikeTold l D h cs) (cwV 2 ht (zG_V zw_565 zw_566 zw_567 zw_387 zw_568) rfl rfl rfl (by decide +kernel) ⟨Nat.le_of_ble_eq_true rfl, Nat.le_of_ble_eq_true rfl⟩) (zR_V (va_recv hK hP (ci := 5) (q0 := 2) rfl rfl) (hP.sub (ws' := [((h 1), .inr (8, [.ref (h 2), .int 0, .ref (h 3), .ref (h 4), .int 0, .ref (h 5), .int 0, .ref (h 6), .int 0, .ref (h 7), .int 0])), ((h 4), .inl ((cs 4), 100, .inr (.inr (.inr (.inr (fun _ => none))))))]) [0, 1] rfl) (hK.sub (tys' := [((cs 4), .object RX4)]) [0] rfl)) rfl rfl hl.1 rfl (lv_room (Nat.le_of_ble_eq_true rfl)) dX5_renew_49 ⟨Nat.le_of_ble_eq_true rfl, Nat.le_of_ble_eq_true rfl⟩).run (fun hw_3 => ?_)
    refine lv_iconst (v := 0) hx hb dX5_renew_52 (by decide) ?_
    refine lv_istore_n (lv' := [(2, .int 0), (0, .ref (h 48)), (1, .ref (h 1))]) hx hb dX5_renew_53 rfl hl (by decide) rfl (fun ls hl => ?_)
    refine lv_iload_n hx hb dX5_renew_54 rfl (lv_at hl 0 rfl) ?_
    refine lv_aload_n hx hb dX5_renew_55 rfl (lv_at hl 2 rfl) ?_
    refine va_get (D := D) (ci := 8) (v := .int 0) (C := RX8) (T := TX8) (N := 11) hx hb ht zinX8 hown hK hP 0 rfl rfl 1 (by decide) (ht _ zw_569) (fun _ h9 => h9) rfl dX5_renew_56 ?_
    refine lv_icmp_ge (tgt := 86) hx hb dX5_renew_59 (by decide) (fun c_4 => ?_) (fun c_4 => ?_)
    · skip
      have hP9 := hP.sub (ws' := [((h 1), .inr (8, [.ref (h 2), .int 0, .ref (h 3), .ref (h 4), .int 0, .ref (h 5), .int 0, .ref (h 6), .int 0, .ref (h 7), .int 0])), ((h 4), .inl ((cs 4), 100, .inr (.inr (.inr (.inr (fun _ => none)))))), ((h 48), .inr (5, [.ref (h 49), .ref (h 50), .ref (h 88), .ref (h 89), .ref (h 90), .int 0, .int 1, .null, .null, .int 0])), ((h 49), .inl ((cs 13), 2048, .inl (upd zI0 0 1)))]) [0, 1, 2, 3] rfl
      have hD9 := hD.sub (ws' := [((h 1), .inr (8, [.ref (h 2), .int 0, .ref (h 3), .ref (h 4), .int 0, .ref (h 5), .int 0, .ref (h 6), .int 0, .ref (h 7), .int 0])), ((h 4), .inl ((cs 4), 100, .inr (.inr (.inr (.inr (fun _ => none)))))), ((h 48), .inr (5, [.ref (h 49), .ref (h 50), .ref (h 88), .ref (h 89), .ref (h 90), .int 0, .int 1, .null, .null, .int 0])), ((h 49), .inl ((cs 13), 2048, .inl (upd zI0 0 1)))]) [0, 1, 2, 3] (by decide) rfl
      have hK9 := hK.sub (tys' := []) [] rfl
      refine W.widen (k := 0) (n := 0) (Nat.le_of_ble_eq_true rfl) (Nat.le_of_ble_eq_true rfl) ?_
      exact W.vret hx hb hr (fun t ht0 hW => ⟨⟨(), rfl, trivial, (zE_of hP9 hK9 hD9 ht0 hW)⟩, hS.F ht0⟩) hS.2.2 dX5_renew_86
    · skip
      exact absurd c_4 (by decide)
  · skip
    exact absurd c_1 (by decide)
set_option maxHeartbeats 4000000 in
set_option maxRecDepth 100000 in
theorem k_X5_countObeying (l : Launch) (D : va_G) (h cs : Nat → Nat) : Met l yX5_countObeying (.code yX5_countObeying cX5_countObeying 3 (some .int) :: zT) ({ frames := 2, cells := 0, slots := 0, locals := 41 }) (va_Pc [.ref (h 48)] (zR D [((h 48), .inr (5, [.ref (h 49), .ref (h 50), .ref (h 88), .ref (h 89), .ref (h 90), .int 0, .int 1, .null, .null, .int 0])), ((h 49), .inl ((cs 13), 2048, .inl (upd zI0 0 1)))] [((cs 13), .int)])) (vp_Si (fun r => r = 1)) 0 0 (fun _ => False) := by
  refine Met.ofW (cc := cX5_countObeying) (maxL := 3) (ret := (some .int)) (by decide) rfl ?_
  intro p e s m args below meth c s₁ B hml hv
  obtain ⟨rfl, hP, hK⟩ := hv
  have hx := B.exec
  have hb := B.bytes
  have hr := B.returns
  have hts := atoms_spec (ws := (.code yX5_countObeying cX5_countObeying 3 (some .int) :: zT)) B.pre
  have ht : ∀ w ∈ zT, w.before _ s = true := fun w h => hts w (List.mem_cons_of_mem _ h)
  have hown : s.vm.findClass RX5 = some m.cls := findClass_of_methodNamed B.named
  have hlocks := B.notSynchronized
  have hl := lv_entry ([.ref (h 48)]) (n := 3) (Nat.le_of_ble_eq_true rfl)
  rw [lg_entry_eq]
  generalize (lg_sl ([.ref (h 48)]) ++ List.replicate (3 - (lg_sl ([.ref (h 48)])).length) Slot.unset).toArray = ls at hl ⊢
  have hl : lv_has ls 3 [(0, .ref (h 48))] := hl
  skip
  refine lv_iconst (v := 0) hx hb dX5_countObeying_0 (by decide) ?_
  refine lv_istore_n (lv' := [(1, .int 0), (0, .ref (h 48))]) hx hb dX5_countObeying_1 rfl hl (by decide) rfl (fun ls hl => ?_)
  refine lv_iconst (v := 0) hx hb dX5_countObeying_2 (by decide) ?_
  refine lv_istore_n (lv' := [(2, .int 0), (1, .int 0), (0, .ref (h 48))]) hx hb dX5_countObeying_3 rfl hl (by decide) rfl (fun ls hl => ?_)
  refine lv_iload_n hx hb dX5_countObeying_4 rfl (lv_at hl 0 rfl) ?_
  refine lv_aload_n hx hb dX5_countObeying_5 rfl (lv_at hl 2 rfl) ?_
  refine vp_callSi (va_runV (As := []) (rest := [.int 0]) ⟨hx, hb, hml, hown, ht⟩ (k_X5_wordsInUse_1 l D h cs 0) (cwV 0 ht (zG_V zw_553 zw_554 zw_555 zw_387 zw_556) rfl rfl rfl (by decide +kernel) ⟨Nat.le_of_ble_eq_true rfl, Nat.le_of_ble_eq_true rfl⟩) (zR_V (va_recv hK hP (ci := 5) (q0 := 0) rfl rfl) (hP.sub (ws' := [((h 48), .inr (5, [.ref (h 49), .ref (h 50), .ref (h 88), .ref (h 89), .ref (h 90), .int 0, .int 1, .null, .null, .int 0]))]) [0] rfl) (hK.sub (tys' := []) [] rfl)) rfl rfl hl.1 rfl (lv_room (Nat.le_of_ble_eq_true rfl)) dX5_countObeying_6 ⟨Nat.le_of_ble_eq_true rfl, Nat.le_of_ble_eq_true rfl⟩).run (fun r_1 hw_1 => ?_)
  obtain rfl : r_1 = 1 := hw_1
  refine lv_icmp_ge (tgt := 30) hx hb dX5_countObeying_9 (by decide) (fun c_2 => ?_) (fun c_2 => ?_)
  · skip
    exact absurd c_2 (by decide)
  · skip
    refine lv_iload_n hx hb dX5_countObeying_12 rfl (lv_at hl 1 rfl) ?_
    refine lv_aload_n hx hb dX5_countObeying_13 rfl (lv_at hl 2 rfl) ?_
    refine va_get (D := D) (ci := 5) (v := .ref (h 49)) (C := RX5) (T := TX5) (N := 10) hx hb ht zinX5 hown hK hP 0 rfl rfl 0 (by decide) (ht _ zw_321) (fun _ h9 => h9) rfl dX5_countObeying_14 ?_
    refine lv_iload_n hx hb dX5_countObeying_17 rfl (lv_at hl 0 rfl) ?_
    refine va_iald hx hb hK hP 1 0 rfl rfl (vp_in_iff.mpr (by decide)) dX5_countObeying_18 ?_
    refine W.eq (g2 := F0 m 19 ls (.int 1 :: .int 0 :: [])) rfl ?_
    refine vp_callSi (va_runS (As := [.int 1]) (rest := [.int 0]) ⟨hx, hb, hml, hown, ht⟩ (k_J_bitCount l) (va_cwS 1 ht (zG_S zw_570 zw_571 zw_572 zw_573) rfl rfl rfl (by decide +kernel) ⟨Nat.le_of_ble_eq_true rfl, Nat.le_of_ble_eq_true rfl⟩) zN_S rfl rfl hl.1 rfl (lv_room (Nat.le_of_ble_eq_true rfl)) dX5_countObeying_19 ⟨Nat.le_of_ble_eq_true rfl, Nat.le_of_ble_eq_true rfl⟩).run (fun r_4 hw_4 => ?_)
    obtain rfl : r_4 = 1 := hw_4
    refine lv_iadd hx hb dX5_countObeying_22 ?_
    refine lv_topi (fun x_5 e_5 => ?_)
    obtain rfl : x_5 = 1 := e_5.trans (by decide)
    refine lv_istore_n (lv' := [(1, .int 1), (2, .int 0), (0, .ref (h 48))]) hx hb dX5_countObeying_23 rfl hl (by decide) rfl (fun ls hl => ?_)
    refine lv_iinc (v := 1) (lv' := [(2, .int 1), (1, .int 1), (0, .ref (h 48))]) hx hb dX5_countObeying_24 hl (k := 1) rfl (by decide) (by decide) rfl (fun ls hl => ?_)
    refine lv_goto (tgt := 4) hx hb dX5_countObeying_27 (by decide) ?_
    refine lv_iload_n hx hb dX5_countObeying_4 rfl (lv_at hl 0 rfl) ?_
    refine lv_aload_n hx hb dX5_countObeying_5 rfl (lv_at hl 2 rfl) ?_
    refine vp_callSi (va_runV (As := []) (rest := [.int 1]) ⟨hx, hb, hml, hown, ht⟩ (k_X5_wordsInUse_1 l D h cs 0) (cwV 0 ht (zG_V zw_553 zw_554 zw_555 zw_387 zw_556) rfl rfl rfl (by decide +kernel) ⟨Nat.le_of_ble_eq_true rfl, Nat.le_of_ble_eq_true rfl⟩) (zR_V (va_recv hK hP (ci := 5) (q0 := 0) rfl rfl) (hP.sub (ws' := [((h 48), .inr (5, [.ref (h 49), .ref (h 50), .ref (h 88), .ref (h 89), .ref (h 90), .int 0, .int 1, .null, .null, .int 0]))]) [0] rfl) (hK.sub (tys' := []) [] rfl)) rfl rfl hl.1 rfl (lv_room (Nat.le_of_ble_eq_true rfl)) dX5_countObeying_6 ⟨Nat.le_of_ble_eq_true rfl, Nat.le_of_ble_eq_true rfl⟩).run (fun r_7 hw_7 => ?_)
    obtain rfl : r_7 = 1 := hw_7
    refine lv_icmp_ge (tgt := 30) hx hb dX5_countObeying_9 (by decide) (fun c_8 => ?_) (fun c_8 => ?_)
    · skip
      refine lv_iload_n hx hb dX5_countObeying_30 rfl (lv_at hl 1 rfl) ?_
      refine W.widen (k := 0) (n := 0) (Nat.le_of_ble_eq_true rfl) (Nat.le_of_ble_eq_true rfl) ?_
      exact W.iret (v := 1) hx hb hr (fun t ht hW => ⟨1, rfl, rfl, ht⟩) (fun q h => nomatch h) dX5_countObeying_31
    · skip
      exact absurd c_8 (by decide)
set_option maxHeartbeats 4000000 in
set_option maxRecDepth 100000 in
theorem k_X11_orders (l : Launch) (sz : Nat) (D : va_G) (h cs : Nat → Nat) : Met l yX11_orders (.code yX11_orders cX11_orders 1 (some .int) :: zT) ({ frames := 4, cells := 0, slots := 0, locals := 86 }) (va_Pc [.ref (h 0)] (zM D [((h 0), .inr (11, [.ref (h 1), .ref (h 9), .int 0, .int 0, .ref (h 20), .ref (h 37), .int 0, .ref (h 38), .ref (h 42), .ref (h 43), .ref (h 44), .ref (h 45), .ref (h 46), .ref (h 47), .ref (h 48)])), ((h 1), .inr (8, [.ref (h 2), .int 0, .ref (h 3), .ref (h 4), .int 0, .ref (h 5), .int 0, .ref (h 6), .int 0, .ref (h 7), .int 0])), ((h 4), .inl ((cs 4), 100, .inr (.inr (.inr (.inr (fun _ => none)))))), ((h 48), .inr (5, [.ref (h 49), .ref (h 50), .ref (h 88), .ref (h 89), .ref (h 90), .int (-1), .int 1, .null, .null, .int 0])), ((h 49), .inl ((cs 13), 2048, .inl zI0))] [((cs 4), .object RX4), ((cs 13), .int)] sz)) (va_Qi (fun (r : Int32) (_ : Unit) => r = 1) (fun _ t => zE D [] [] (va_A [((h 0), .inr (11, [.ref (h 1), .ref (h 9), .int 0, .int 0, .ref (h 20), .ref (h 37), .int 0, .ref (h 38), .ref (h 42), .ref (h 43), .ref (h 44), .ref (h 45), .ref (h 46), .ref (h 47), .ref (h 48)])), ((h 1), .inr (8, [.ref (h 2), .int 0, .ref (h 3), .ref (h 4), .int 0, .ref (h 5), .int 0, .ref (h 6), .int 0, .ref (h 7), .int 0])), ((h 4), .inl ((cs 4), 100, .inr (.inr (.inr (.inr (fun _ => none)))))), ((h 48), .inr (5, [.ref (h 49), .ref (h 50), .ref (h 88), .ref (h 89), .ref (h 90), .int (-1), .int 1, .null, .null, .int 0])), ((h 49), .inl ((cs 13), 2048, .inl zI0))] sz) t) (va_A [((h 0), .inr (11, [.ref (h 1), .ref (h 9), .int 0, .int 0, .ref (h 20), .ref (h 37), .int 0, .ref (h 38), .ref (h 42), .ref (h 43), .ref (h 44), .ref (h 45), .ref (h 46), .ref (h 47), .ref (h 48)])), ((h 1), .inr (8, [.ref (h 2), .int 0, .ref (h 3), .ref (h 4), .int 0, .ref (h 5), .int 0, .ref (h 6), .int 0, .ref (h 7), .int 0])), ((h 4), .inl ((cs 4), 100, .inr (.inr (.inr (.inr (fun _ => none)))))), ((h 48), .inr (5, [.ref (h 49), .ref (h 50), .ref (h 88), .ref (h 89), .ref (h 90), .int (-1), .int 1, .null, .null, .int 0])), ((h 49), .inl ((cs 13), 2048, .inl zI0))] sz)) 0 0 (va_A [((h 0), .inr (11, [.ref (h 1), .ref (h 9), .int 0, .int 0, .ref (h 20), .ref (h 37), .int 0, .ref (h 38), .ref (h 42), .ref (h 43), .ref (h 44), .ref (h 45), .ref (h 46), .ref (h 47), .ref (h 48)])), ((h 1), .inr (8, [.ref (h 2), .int 0, .ref (h 3), .ref (h 4), .int 0, .ref (h 5), .int 0, .ref (h 6), .int 0, .ref (h 7), .int 0])), ((h 4), .inl ((cs 4), 100, .inr (.inr (.inr (.inr (fun _ => none)))))), ((h 48), .inr (5, [.ref (h 49), .ref (h 50), .ref (h 88), .ref (h 89), .ref (h 90), .int (-1), .int 1, .null, .null, .int 0])), ((h 49), .inl ((cs 13), 2048, .inl zI0))] sz) := by
  refine Met.ofW (cc := cX11_orders) (maxL := 1) (ret := (some .int)) (by decide) rfl ?_
  intro p e s m args below meth c s₁ B hml hv
  obtain ⟨rfl, hsz, hP, hK, hD0⟩ := hv
  have hx := B.exec
  have hb := B.bytes
  have hr := B.returns
  have hts := atoms_spec (ws := (.code yX11_orders cX11_orders 1 (some .int) :: zT)) B.pre
  have ht : ∀ w ∈ zT, w.before _ s = true := fun w h => hts w (List.mem_cons_of_mem _ h)
  have hown : s.vm.findClass RX11 = some m.cls := findClass_of_methodNamed B.named
  have hlocks := B.notSynchronized
  subst hsz
  have hD := hD0.self (sz := s.heap.size)
  generalize hAe : va_A [((h 0), .inr (11, [.ref (h 1), .ref (h 9), .int 0, .int 0, .ref (h 20), .ref (h 37), .int 0, .ref (h 38), .ref (h 42), .ref (h 43), .ref (h 44), .ref (h 45), .ref (h 46), .ref (h 47), .ref (h 48)])), ((h 1), .inr (8, [.ref (h 2), .int 0, .ref (h 3), .ref (h 4), .int 0, .ref (h 5), .int 0, .ref (h 6), .int 0, .ref (h 7), .int 0])), ((h 4), .inl ((cs 4), 100, .inr (.inr (.inr (.inr (fun _ => none)))))), ((h 48), .inr (5, [.ref (h 49), .ref (h 50), .ref (h 88), .ref (h 89), .ref (h 90), .int (-1), .int 1, .null, .null, .int 0])), ((h 49), .inl ((cs 13), 2048, .inl zI0))] s.heap.size = A at hD ⊢
  have hA : ∀ q : Nat, s.heap.size ≤ q → A q := fun q h => by rw [← hAe]; exact Or.inr h
  have hS : va_S A s.heap s.heap [] := va_S.rf
  have hP : va_P D vwCl [((h 0), .inr (11, [.ref (h 1), .ref (h 9), .int 0, .int 0, .ref (h 20), .ref (h 37), .int 0, .ref (h 38), .ref (h 42), .ref (h 43), .ref (h 44), .ref (h 45), .ref (h 46), .ref (h 47), .ref (h 48)])), ((h 1), .inr (8, [.ref (h 2), .int 0, .ref (h 3), .ref (h 4), .int 0, .ref (h 5), .int 0, .ref (h 6), .int 0, .ref (h 7), .int 0])), ((h 4), .inl ((cs 4), 100, .inr (.inr (.inr (.inr (fun _ => none)))))), ((h 48), .inr (5, [.ref (h 49), .ref (h 50), .ref (h 88), .ref (h 89), .ref (h 90), .int (-1), .int 1, .null, .null, .int 0])), ((h 49), .inl ((cs 13), 2048, .inl zI0))] s.heap := hP
  have hl := lv_entry ([.ref (h 0)]) (n := 1) (Nat.le_of_ble_eq_true rfl)
  rw [lg_entry_eq]
  generalize (lg_sl ([.ref (h 0)]) ++ List.replicate (1 - (lg_sl ([.ref (h 0)])).length) Slot.unset).toArray = ls at hl ⊢
  have hl : lv_has ls 1 [(0, .ref (h 0))] := hl
  skip
  refine lv_aload_n hx hb dX11_orders_0 rfl (lv_at hl 0 rfl) ?_
  refine va_get (D := D) (ci := 11) (v := .ref (h 48)) (C := RX11) (T := TX11) (N := 15) hx hb ht zinX11 hown hK hP 0 rfl rfl 14 (by decide) (ht _ zw_390) (fun _ h9 => h9) rfl dX11_orders_1 ?_
  refine lv_aload_n hx hb dX11_orders_4 rfl (lv_at hl 0 rfl) ?_
  refine va_get (D := D) (ci := 11) (v := .ref (h 1)) (C := RX11) (T := TX11) (N := 15) hx hb ht zinX11 hown hK hP 0 rfl rfl 0 (by decide) (ht _ zw_353) (fun _ h9 => h9) rfl dX11_orders_5 ?_
  have hPc := hP.sub (ws' := [((h 1), .inr (8, [.ref (h 2), .int 0, .ref (h 3), .ref (h 4), .int 0, .ref (h 5), .int 0, .ref (h 6), .int 0, .ref (h 7), .int 0])), ((h 4), .inl ((cs 4), 100, .inr (.inr (.inr (.inr (fun _ => none)))))), ((h 48), .inr (5, [.ref (h 49), .ref (h 50), .ref (h 88), .ref (h 89), .ref (h 90), .int (-1), .int 1, .null, .null, .int 0])), ((h 49), .inl ((cs 13), 2048, .inl zI0))]) [1, 2, 3, 4] rfl
  have hDc := hD.sub (ws' := [((h 1), .inr (8, [.ref (h 2), .int 0, .ref (h 3), .ref (h 4), .int 0, .ref (h 5), .int 0, .ref (h 6), .int 0, .ref (h 7), .int 0])), ((h 4), .inl ((cs 4), 100, .inr (.inr (.inr (.inr (fun _ => none)))))), ((h 48), .inr (5, [.ref (h 49), .ref (h 50), .ref (h 88), .ref (h 89), .ref (h 90), .int (-1), .int 1, .null, .null, .int 0])), ((h 49), .inl ((cs 13), 2048, .inl zI0))]) [1, 2, 3, 4] (by decide) rfl
  have hKc := hK.sub (tys' := [((cs 4), .object RX4), ((cs 13), .int)]) [0, 1] rfl
  have hFc := va_free (wc := [((h 1), .inr (8, [.ref (h 2), .int 0, .ref (h 3), .ref (h 4), .int 0, .ref (h 5), .int 0, .ref (h 6), .int 0, .ref (h 7), .int 0])), ((h 4), .inl ((cs 4), 100, .inr (.inr (.inr (.inr (fun _ => none)))))), ((h 48), .inr (5, [.ref (h 49), .ref (h 50), .ref (h 88), .ref (h 89), .ref (h 90), .int (-1), .int 1, .null, .null, .int 0])), ((h 49), .inl ((cs 13), 2048, .inl zI0))]) hD hS hA [1, 2, 3, 4] rfl
  refine va_callv (va_runV (As := [.ref (h 1)]) (rest := []) ⟨hx, hb, hml, hown, ht⟩ (k_X5_renew l _ D h cs) (cwV 1 ht (zG_V zw_574 zw_575 zw_576 zw_387 zw_577) rfl rfl rfl (by decide +kernel) ⟨Nat.le_of_ble_eq_true rfl, Nat.le_of_ble_eq_true rfl⟩) (zM_V (va_recv hK hP (ci := 5) (q0 := 3) rfl rfl) hPc hKc hDc) rfl rfl hl.1 rfl (lv_room (Nat.le_of_ble_eq_true rfl)) dX11_orders_8 ⟨Nat.le_of_ble_eq_true rfl, Nat.le_of_ble_eq_true rfl⟩) hS (fun q _ h => hFc q h) hFc (fun u_1 t H1 locs ht0 hvm hw_1 hB hz1 hk1 hS => ?_)
  obtain ⟨hP1, hK1, hD1⟩ := hB
  rw [ht0] at hP1
  have hK1 := va_K.moved hvm.symm hK1
  obtain ⟨hP, hD⟩ := va_join (wr := [((h 0), .inr (11, [.ref (h 1), .ref (h 9), .int 0, .int 0, .ref (h 20), .ref (h 37), .int 0, .ref (h 38), .ref (h 42), .ref (h 43), .ref (h 44), .ref (h 45), .ref (h 46), .ref (h 47), .ref (h 48)]))]) (w1 := [((h 1), .inr (8, [.ref (h 2), .int 0, .ref (h 3), .ref (h 4), .int 0, .ref (h 5), .int 0, .ref (h 6), .int 0, .ref (h 7), .int 0])), ((h 4), .inl ((cs 4), 100, .inr (.inr (.inr (.inr (fun _ => none)))))), ((h 48), .inr (5, [.ref (h 49), .ref (h 50), .ref (h 88), .ref (h 89), .ref (h 90), .int 0, .int 1, .null, .null, .int 0])), ((h 49), .inl ((cs 13), 2048, .inl (upd zI0 0 1)))]) hP hD [1, 2, 3, 4] [0] rfl rfl (by decide) (by decide) hk1 hFc hP1 hD1
  generalize H1 = H at hP hS ⊢
  have hP : va_P D vwCl [((h 0), .inr (11, [.ref (h 1), .ref (h 9), .int 0, .int 0, .ref (h 20), .ref (h 37), .int 0, .ref (h 38), .ref (h 42), .ref (h 43), .ref (h 44), .ref (h 45), .ref (h 46), .ref (h 47), .ref (h 48)])), ((h 1), .inr (8, [.ref (h 2), .int 0, .ref (h 3), .ref (h 4), .int 0, .ref (h 5), .int 0, .ref (h 6), .int 0, .ref (h 7), .int 0])), ((h 4), .inl ((cs 4), 100, .inr (.inr (.inr (.inr (fun _ => none)))))), ((h 48), .inr (5, [.ref (h 49), .ref (h 50), .ref (h 88), .ref (h 89), .ref (h 90), .int 0, .int 1, .null, .null, .int 0])), ((h 49), .inl ((cs 13), 2048, .inl (upd zI0 0 1)))] H := hP
  have hD : va_D A [((h 0), .inr (11, [.ref (h 1), .ref (h 9), .int 0, .int 0, .ref (h 20), .ref (h 37), .int 0, .ref (h 38), .ref (h 42), .ref (h 43), .ref (h 44), .ref (h 45), .ref (h 46), .ref (h 47), .ref (h 48)])), ((h 1), .inr (8, [.ref (h 2), .int 0, .ref (h 3), .ref (h 4), .int 0, .ref (h 5), .int 0, .ref (h 6), .int 0, .ref (h 7), .int 0])), ((h 4), .inl ((cs 4), 100, .inr (.inr (.inr (.inr (fun _ => none)))))), ((h 48), .inr (5, [.ref (h 49), .ref (h 50), .ref (h 88), .ref (h 89), .ref (h 90), .int 0, .int 1, .null, .null, .int 0])), ((h 49), .inl ((cs 13), 2048, .inl (upd zI0 0 1)))] := hD
  refine lv_aload_n hx hb dX11_orders_11 rfl (lv_at hl 0 rfl) ?_
  refine va_get (D := D) (ci := 11) (v := .ref (h 48)) (C := RX11) (T := TX11) (N := 15) hx hb ht zinX11 hown hK hP 0 rfl rfl 14 (by decide) (ht _ zw_390) (fun _ h9 => h9) rfl dX11_orders_12 ?_
  refine vp_callSi (va_runV (As := []) (rest := []) ⟨hx, hb, hml, hown, ht⟩ (k_X5_countObeying l D h cs) (cwV 0 ht (zG_V zw_578 zw_579 zw_580 zw_387 zw_581) rfl rfl rfl (by decide +kernel) ⟨Nat.le_of_ble_eq_true rfl, Nat.le_of_ble_eq_true rfl⟩) (zR_V (va_recv hK hP (ci := 5) (q0 := 3) rfl rfl) (hP.sub (ws' := [((h 48), .inr (5, [.ref (h 49), .ref (h 50), .ref (h 88), .ref (h 89), .ref (h 90), .int 0, .int 1, .null, .null, .int 0])), ((h 49), .inl ((cs 13), 2048, .inl (upd zI0 0 1)))]) [3, 4] rfl) (hK.sub (tys' := [((cs 13), .int)]) [1] rfl)) rfl rfl hl.1 rfl (lv_room (Nat.le_of_ble_eq_true rfl)) dX11_orders_15 ⟨Nat.le_of_ble_eq_true rfl, Nat.le_of_ble_eq_true rfl⟩).run (fun r_2 hw_2 => ?_)
  obtain rfl : r_2 = 1 := hw_2
  have hP9 := hP.sub (ws' := []) [] rfl
  have hD9 := hD.sub (ws' := []) [] (by decide) rfl
  have hK9 := hK.sub (tys' := []) [] rfl
  refine W.widen (k := 0) (n := 0) (Nat.le_of_ble_eq_true rfl) (Nat.le_of_ble_eq_true rfl) ?_
  exact W.iret (v := 1) hx hb hr (fun t ht0 hW => ⟨⟨1, (), rfl, rfl, (zE_of hP9 hK9 hD9 ht0 hW)⟩, hS.F ht0⟩) hS.2.2 dX11_orders_18
set_option maxHeartbeats 4000000 in
set_option maxRecDepth 100000 in
theorem k_X5_limitToAssumptions (l : Launch) (sz : Nat) (D : va_G) (h cs : Nat → Nat) : Met l yX5_limitToAssumptions (.code yX5_limitToAssumptions cX5_limitToAssumptions 3 none :: zT) ({ frames := 1, cells := 0, slots := 0, locals := 64 }) (va_Pc [.ref (h 48), .ref (h 1)] (zM D [((h 1), .inr (8, [.ref (h 2), .int 0, .ref (h 3), .ref (h 4), .int 0, .ref (h 5), .int 0, .ref (h 6), .int 0, .ref (h 7), .int 0])), ((h 48), .inr (5, [.ref (h 49), .ref (h 50), .ref (h 88), .ref (h 89), .ref (h 90), .int 0, .int 1, .null, .null, .int 0])), ((h 49), .inl ((cs 13), 2048, .inl (upd zI0 0 1))), ((h 50), .inl ((cs 13), 2048, .inl zI0))] [((cs 13), .int)] sz)) (va_Qv (fun (_ : Unit) => True) (fun _ t => zE D [((h 1), .inr (8, [.ref (h 2), .int 0, .ref (h 3), .ref (h 4), .int 0, .ref (h 5), .int 0, .ref (h 6), .int 0, .ref (h 7), .int 0])), ((h 48), .inr (5, [.ref (h 49), .ref (h 50), .ref (h 88), .ref (h 89), .ref (h 90), .int 0, .int 1, .null, .null, .int 0])), ((h 49), .inl ((cs 13), 2048, .inl (upd zI0 0 1)))] [] (va_A [((h 1), .inr (8, [.ref (h 2), .int 0, .ref (h 3), .ref (h 4), .int 0, .ref (h 5), .int 0, .ref (h 6), .int 0, .ref (h 7), .int 0])), ((h 48), .inr (5, [.ref (h 49), .ref (h 50), .ref (h 88), .ref (h 89), .ref (h 90), .int 0, .int 1, .null, .null, .int 0])), ((h 49), .inl ((cs 13), 2048, .inl (upd zI0 0 1))), ((h 50), .inl ((cs 13), 2048, .inl zI0))] sz) t) (va_A [((h 1), .inr (8, [.ref (h 2), .int 0, .ref (h 3), .ref (h 4), .int 0, .ref (h 5), .int 0, .ref (h 6), .int 0, .ref (h 7), .int 0])), ((h 48), .inr (5, [.ref (h 49), .ref (h 50), .ref (h 88), .ref (h 89), .ref (h 90), .int 0, .int 1, .null, .null, .int 0])), ((h 49), .inl ((cs 13), 2048, .inl (upd zI0 0 1))), ((h 50), .inl ((cs 13), 2048, .inl zI0))] sz)) 0 0 (va_A [((h 1), .inr (8, [.ref (h 2), .int 0, .ref (h 3), .ref (h 4), .int 0, .ref (h 5), .int 0, .ref (h 6), .int 0, .ref (h 7), .int 0])), ((h 48), .inr (5, [.ref (h 49), .ref (h 50), .ref (h 88), .ref (h 89), .ref (h 90), .int 0, .int 1, .null, .null, .int 0])), ((h 49), .inl ((cs 13), 2048, .inl (upd zI0 0 1))), ((h 50), .inl ((cs 13), 2048, .inl zI0))] sz) := by
  refine Met.ofW (cc := cX5_limitToAssumptions) (maxL := 3) (ret := none) (by decide) rfl ?_
  intro p e s m args below meth c s₁ B hml hv
  obtain ⟨rfl, hsz, hP, hK, hD0⟩ := hv
  have hx := B.exec
  have hb := B.bytes
  have hr := B.returns
  have hts := atoms_spec (ws := (.code yX5_limitToAssumptions cX5_limitToAssumptions 3 none :: zT)) B.pre
  have ht : ∀ w ∈ zT, w.before _ s = true := fun w h => hts w (List.mem_cons_of_mem _ h)
  have hown : s.vm.findClass RX5 = some m.cls := findClass_of_methodNamed B.named
  have hlocks := B.notSynchronized
  subst hsz
  have hD := hD0.self (sz := s.heap.size)
  generalize hAe : va_A [((h 1), .inr (8, [.ref (h 2), .int 0, .ref (h 3), .ref (h 4), .int 0, .ref (h 5), .int 0, .ref (h 6), .int 0, .ref (h 7), .int 0])), ((h 48), .inr (5, [.ref (h 49), .ref (h 50), .ref (h 88), .ref (h 89), .ref (h 90), .int 0, .int 1, .null, .null, .int 0])), ((h 49), .inl ((cs 13), 2048, .inl (upd zI0 0 1))), ((h 50), .inl ((cs 13), 2048, .inl zI0))] s.heap.size = A at hD ⊢
  have hA : ∀ q : Nat, s.heap.size ≤ q → A q := fun q h => by rw [← hAe]; exact Or.inr h
  have hS : va_S A s.heap s.heap [] := va_S.rf
  have hP : va_P D vwCl [((h 1), .inr (8, [.ref (h 2), .int 0, .ref (h 3), .ref (h 4), .int 0, .ref (h 5), .int 0, .ref (h 6), .int 0, .ref (h 7), .int 0])), ((h 48), .inr (5, [.ref (h 49), .ref (h 50), .ref (h 88), .ref (h 89), .ref (h 90), .int 0, .int 1, .null, .null, .int 0])), ((h 49), .inl ((cs 13), 2048, .inl (upd zI0 0 1))), ((h 50), .inl ((cs 13), 2048, .inl zI0))] s.heap := hP
  have hl := lv_entry ([.ref (h 48), .ref (h 1)]) (n := 3) (Nat.le_of_ble_eq_true rfl)
  rw [lg_entry_eq]
  generalize (lg_sl ([.ref (h 48), .ref (h 1)]) ++ List.replicate (3 - (lg_sl ([.ref (h 48), .ref (h 1)])).length) Slot.unset).toArray = ls at hl ⊢
  have hl : lv_has ls 3 [(0, .ref (h 48)), (1, .ref (h 1))] := hl
  skip
  refine lv_aload_n hx hb dX5_limitToAssumptions_0 rfl (lv_at hl 0 rfl) ?_
  refine va_get (D := D) (ci := 5) (v := .ref (h 49)) (C := RX5) (T := TX5) (N := 10) hx hb ht zinX5 hown hK hP 1 rfl rfl 0 (by decide) (ht _ zw_321) (fun _ h9 => h9) rfl dX5_limitToAssumptions_1 ?_
  refine lv_iconst (v := 0) hx hb dX5_limitToAssumptions_4 (by decide) ?_
  refine lv_aload_n hx hb dX5_limitToAssumptions_5 rfl (lv_at hl 0 rfl) ?_
  refine va_get (D := D) (ci := 5) (v := .ref (h 50)) (C := RX5) (T := TX5) (N := 10) hx hb ht zinX5 hown hK hP 1 rfl rfl 1 (by decide) (ht _ zw_322) (fun _ h9 => h9) rfl dX5_limitToAssumptions_6 ?_
  refine lv_iconst (v := 0) hx hb dX5_limitToAssumptions_9 (by decide) ?_
  refine lv_sipush (v := 2048) hx hb dX5_limitToAssumptions_10 (by decide) ?_
  refine va_copyi hx hb (hml.trans hl.1.symm) hown (ht _ zw_582) (ht _ zw_96) (ht _ zw_97) (ht _ zw_98) hK hP hD hS 2 3 0 0 rfl rfl rfl rfl rfl (by decide) (by decide) (by decide) (Nat.le_of_ble_eq_true rfl) (Nat.le_of_ble_eq_true rfl) (fun _ _ => rfl) (Nat.le_of_ble_eq_true rfl) (Nat.le_of_ble_eq_true rfl) dX5_limitToAssumptions_13 (fun H locs hP hD hS => ?_)
  have hP : va_P D vwCl [((h 1), .inr (8, [.ref (h 2), .int 0, .ref (h 3), .ref (h 4), .int 0, .ref (h 5), .int 0, .ref (h 6), .int 0, .ref (h 7), .int 0])), ((h 48), .inr (5, [.ref (h 49), .ref (h 50), .ref (h 88), .ref (h 89), .ref (h 90), .int 0, .int 1, .null, .null, .int 0])), ((h 49), .inl ((cs 13), 2048, .inl (upd zI0 0 1))), ((h 50), .inl ((cs 13), 2048, .inl (va_cpy (upd zI0 0 1) zI0 0 0 2048)))] H := hP
  have hD : va_D A [((h 1), .inr (8, [.ref (h 2), .int 0, .ref (h 3), .ref (h 4), .int 0, .ref (h 5), .int 0, .ref (h 6), .int 0, .ref (h 7), .int 0])), ((h 48), .inr (5, [.ref (h 49), .ref (h 50), .ref (h 88), .ref (h 89), .ref (h 90), .int 0, .int 1, .null, .null, .int 0])), ((h 49), .inl ((cs 13), 2048, .inl (upd zI0 0 1))), ((h 50), .inl ((cs 13), 2048, .inl (va_cpy (upd zI0 0 1) zI0 0 0 2048)))] := hD
  refine lv_iconst (v := 0) hx hb dX5_limitToAssumptions_16 (by decide) ?_
  refine lv_istore_n (lv' := [(2, .int 0), (0, .ref (h 48)), (1, .ref (h 1))]) hx hb dX5_limitToAssumptions_17 rfl hl (by decide) rfl (fun ls hl => ?_)
  refine lv_iload_n hx hb dX5_limitToAssumptions_18 rfl (lv_at hl 0 rfl) ?_
  refine lv_aload_n hx hb dX5_limitToAssumptions_19 rfl (lv_at hl 2 rfl) ?_
  refine va_get (D := D) (ci := 8) (v := .int 0) (C := RX8) (T := TX8) (N := 11) hx hb ht zinX8 hown hK hP 0 rfl rfl 8 (by decide) (ht _ zw_583) (fun _ h9 => h9) rfl dX5_limitToAssumptions_20 ?_
  refine lv_icmp_ge (tgt := 47) hx hb dX5_limitToAssumptions_23 (by decide) (fun c_1 => ?_) (fun c_1 => ?_)
  · skip
    have hP9 := hP.sub (ws' := [((h 1), .inr (8, [.ref (h 2), .int 0, .ref (h 3), .ref (h 4), .int 0, .ref (h 5), .int 0, .ref (h 6), .int 0, .ref (h 7), .int 0])), ((h 48), .inr (5, [.ref (h 49), .ref (h 50), .ref (h 88), .ref (h 89), .ref (h 90), .int 0, .int 1, .null, .null, .int 0])), ((h 49), .inl ((cs 13), 2048, .inl (upd zI0 0 1)))]) [0, 1, 2] rfl
    have hD9 := hD.sub (ws' := [((h 1), .inr (8, [.ref (h 2), .int 0, .ref (h 3), .ref (h 4), .int 0, .ref (h 5), .int 0, .ref (h 6), .int 0, .ref (h 7), .int 0])), ((h 48), .inr (5, [.ref (h 49), .ref (h 50), .ref (h 88), .ref (h 89), .ref (h 90), .int 0, .int 1, .null, .null, .int 0])), ((h 49), .inl ((cs 13), 2048, .inl (upd zI0 0 1)))]) [0, 1, 2] (by decide) rfl
    have hK9 := hK.sub (tys' := []) [] rfl
    refine W.widen (k := 0) (n := 0) (Nat.le_of_ble_eq_true rfl) (Nat.le_of_ble_eq_true rfl) ?_
    exact W.vret hx hb hr (fun t ht0 hW => ⟨⟨(), rfl, trivial, (zE_of hP9 hK9 hD9 ht0 hW)⟩, hS.F ht0⟩) hS.2.2 dX5_limitToAssumptions_47
  · skip
    exact absurd c_1 (by decide)
set_option maxHeartbeats 4000000 in
set_option maxRecDepth 100000 in
theorem k_X11_errors (l : Launch) (sz : Nat) (D : va_G) (h cs : Nat → Nat) (fn : Nat → Option Nat) (hn : ∀ k : Nat, k < 4 → fn k = some (h 8)) : Met l yX11_errors (.code yX11_errors cX11_errors 5 (some .int) :: zT) ({ frames := 4, cells := 0, slots := 0, locals := 86 }) (va_Pc [.ref (h 0)] (zM D [((h 0), .inr (11, [.ref (h 1), .ref (h 9), .int 0, .int 0, .ref (h 20), .ref (h 37), .int 0, .ref (h 38), .ref (h 42), .ref (h 43), .ref (h 44), .ref (h 45), .ref (h 46), .ref (h 47), .ref (h 48)])), ((h 1), .inr (8, [.ref (h 2), .int 0, .ref (h 3), .ref (h 4), .int 0, .ref (h 5), .int 0, .ref (h 6), .int 0, .ref (h 7), .int 0])), ((h 4), .inl ((cs 4), 100, .inr (.inr (.inr (.inr (fun _ => none)))))), ((h 7), .inl ((cs 0), 4, .inr (.inr (.inr (.inr fn))))), ((h 8), .inr (0, [.ref (h 102), .ref (h 103), .int 0])), ((h 46), .inr (1, [.ref (h 84), .ref (h 85), .ref (h 86), .ref (h 87), .int 0, .int 0, .int (-1), .int 0, .int (-1), .int (-1), .int 0])), ((h 48), .inr (5, [.ref (h 49), .ref (h 50), .ref (h 88), .ref (h 89), .ref (h 90), .int (-1), .int 1, .null, .null, .int 0])), ((h 49), .inl ((cs 13), 2048, .inl zI0)), ((h 50), .inl ((cs 13), 2048, .inl zI0))] [((cs 4), .object RX4), ((cs 13), .int), ((cs 0), .object RX0)] sz)) (va_Qi (fun (r : Int32) (_ : Unit) => r = 0) (fun _ t => zE D [] [] (va_A [((h 0), .inr (11, [.ref (h 1), .ref (h 9), .int 0, .int 0, .ref (h 20), .ref (h 37), .int 0, .ref (h 38), .ref (h 42), .ref (h 43), .ref (h 44), .ref (h 45), .ref (h 46), .ref (h 47), .ref (h 48)])), ((h 1), .inr (8, [.ref (h 2), .int 0, .ref (h 3), .ref (h 4), .int 0, .ref (h 5), .int 0, .ref (h 6), .int 0, .ref (h 7), .int 0])), ((h 4), .inl ((cs 4), 100, .inr (.inr (.inr (.inr (fun _ => none)))))), ((h 7), .inl ((cs 0), 4, .inr (.inr (.inr (.inr fn))))), ((h 8), .inr (0, [.ref (h 102), .ref (h 103), .int 0])), ((h 46), .inr (1, [.ref (h 84), .ref (h 85), .ref (h 86), .ref (h 87), .int 0, .int 0, .int (-1), .int 0, .int (-1), .int (-1), .int 0])), ((h 48), .inr (5, [.ref (h 49), .ref (h 50), .ref (h 88), .ref (h 89), .ref (h 90), .int (-1), .int 1, .null, .null, .int 0])), ((h 49), .inl ((cs 13), 2048, .inl zI0)), ((h 50), .inl ((cs 13), 2048, .inl zI0))] sz) t) (va_A [((h 0), .inr (11, [.ref (h 1), .ref (h 9), .int 0, .int 0, .ref (h 20), .ref (h 37), .int 0, .ref (h 38), .ref (h 42), .ref (h 43), .ref (h 44), .ref (h 45), .ref (h 46), .ref (h 47), .ref (h 48)])), ((h 1), .inr (8, [.ref (h 2), .int 0, .ref (h 3), .ref (h 4), .int 0, .ref (h 5), .int 0, .ref (h 6), .int 0, .ref (h 7), .int 0])), ((h 4), .inl ((cs 4), 100, .inr (.inr (.inr (.inr (fun _ => none)))))), ((h 7), .inl ((cs 0), 4, .inr (.inr (.inr (.inr fn))))), ((h 8), .inr (0, [.ref (h 102), .ref (h 103), .int 0])), ((h 46), .inr (1, [.ref (h 84), .ref (h 85), .ref (h 86), .ref (h 87), .int 0, .int 0, .int (-1), .int 0, .int (-1), .int (-1), .int 0])), ((h 48), .inr (5, [.ref (h 49), .ref (h 50), .ref (h 88), .ref (h 89), .ref (h 90), .int (-1), .int 1, .null, .null, .int 0])), ((h 49), .inl ((cs 13), 2048, .inl zI0)), ((h 50), .inl ((cs 13), 2048, .inl zI0))] sz)) 0 0 (va_A [((h 0), .inr (11, [.ref (h 1), .ref (h 9), .int 0, .int 0, .ref (h 20), .ref (h 37), .int 0, .ref (h 38), .ref (h 42), .ref (h 43), .ref (h 44), .ref (h 45), .ref (h 46), .ref (h 47), .ref (h 48)])), ((h 1), .inr (8, [.ref (h 2), .int 0, .ref (h 3), .ref (h 4), .int 0, .ref (h 5), .int 0, .ref (h 6), .int 0, .ref (h 7), .int 0])), ((h 4), .inl ((cs 4), 100, .inr (.inr (.inr (.inr (fun _ => none)))))), ((h 7), .inl ((cs 0), 4, .inr (.inr (.inr (.inr fn))))), ((h 8), .inr (0, [.ref (h 102), .ref (h 103), .int 0])), ((h 46), .inr (1, [.ref (h 84), .ref (h 85), .ref (h 86), .ref (h 87), .int 0, .int 0, .int (-1), .int 0, .int (-1), .int (-1), .int 0])), ((h 48), .inr (5, [.ref (h 49), .ref (h 50), .ref (h 88), .ref (h 89), .ref (h 90), .int (-1), .int 1, .null, .null, .int 0])), ((h 49), .inl ((cs 13), 2048, .inl zI0)), ((h 50), .inl ((cs 13), 2048, .inl zI0))] sz) := by
  refine Met.ofW (cc := cX11_errors) (maxL := 5) (ret := (some .int)) (by decide) rfl ?_
  intro p e s m args below meth c s₁ B hml hv
  obtain ⟨rfl, hsz, hP, hK, hD0⟩ := hv
  have hx := B.exec
  have hb := B.bytes
  have hr := B.returns
  have hts := atoms_spec (ws := (.code yX11_errors cX11_errors 5 (some .int) :: zT)) B.pre
  have ht : ∀ w ∈ zT, w.before _ s = true := fun w h => hts w (List.mem_cons_of_mem _ h)
  have hown : s.vm.findClass RX11 = some m.cls := findClass_of_methodNamed B.named
  have hlocks := B.notSynchronized
  subst hsz
  have hD := hD0.self (sz := s.heap.size)
  generalize hAe : va_A [((h 0), .inr (11, [.ref (h 1), .ref (h 9), .int 0, .int 0, .ref (h 20), .ref (h 37), .int 0, .ref (h 38), .ref (h 42), .ref (h 43), .ref (h 44), .ref (h 45), .ref (h 46), .ref (h 47), .ref (h 48)])), ((h 1), .inr (8, [.ref (h 2), .int 0, .ref (h 3), .ref (h 4), .int 0, .ref (h 5), .int 0, .ref (h 6), .int 0, .ref (h 7), .int 0])), ((h 4), .inl ((cs 4), 100, .inr (.inr (.inr (.inr (fun _ => none)))))), ((h 7), .inl ((cs 0), 4, .inr (.inr (.inr (.inr fn))))), ((h 8), .inr (0, [.ref (h 102), .ref (h 103), .int 0])), ((h 46), .inr (1, [.ref (h 84), .ref (h 85), .ref (h 86), .ref (h 87), .int 0, .int 0, .int (-1), .int 0, .int (-1), .int (-1), .int 0])), ((h 48), .inr (5, [.ref (h 49), .ref (h 50), .ref (h 88), .ref (h 89), .ref (h 90), .int (-1), .int 1, .null, .null, .int 0])), ((h 49), .inl ((cs 13), 2048, .inl zI0)), ((h 50), .inl ((cs 13), 2048, .inl zI0))] s.heap.size = A at hD ⊢
  have hA : ∀ q : Nat, s.heap.size ≤ q → A q := fun q h => by rw [← hAe]; exact Or.inr h
  have hS : va_S A s.heap s.heap [] := va_S.rf
  have hP : va_P D vwCl [((h 0), .inr (11, [.ref (h 1), .ref (h 9), .int 0, .int 0, .ref (h 20), .ref (h 37), .int 0, .ref (h 38), .ref (h 42), .ref (h 43), .ref (h 44), .ref (h 45), .ref (h 46), .ref (h 47), .ref (h 48)])), ((h 1), .inr (8, [.ref (h 2), .int 0, .ref (h 3), .ref (h 4), .int 0, .ref (h 5), .int 0, .ref (h 6), .int 0, .ref (h 7), .int 0])), ((h 4), .inl ((cs 4), 100, .inr (.inr (.inr (.inr (fun _ => none)))))), ((h 7), .inl ((cs 0), 4, .inr (.inr (.inr (.inr fn))))), ((h 8), .inr (0, [.ref (h 102), .ref (h 103), .int 0])), ((h 46), .inr (1, [.ref (h 84), .ref (h 85), .ref (h 86), .ref (h 87), .int 0, .int 0, .int (-1), .int 0, .int (-1), .int (-1), .int 0])), ((h 48), .inr (5, [.ref (h 49), .ref (h 50), .ref (h 88), .ref (h 89), .ref (h 90), .int (-1), .int 1, .null, .null, .int 0])), ((h 49), .inl ((cs 13), 2048, .inl zI0)), ((h 50), .inl ((cs 13), 2048, .inl zI0))] s.heap := hP
  have hl := lv_entry ([.ref (h 0)]) (n := 5) (Nat.le_of_ble_eq_true rfl)
  rw [lg_entry_eq]
  generalize (lg_sl ([.ref (h 0)]) ++ List.replicate (5 - (lg_sl ([.ref (h 0)])).length) Slot.unset).toArray = ls at hl ⊢
  have hl : lv_has ls 5 [(0, .ref (h 0))] := hl
  skip
  refine lv_aload_n hx hb dX11_errors_0 rfl (lv_at hl 0 rfl) ?_
  refine va_get (D := D) (ci := 11) (v := .ref (h 48)) (C := RX11) (T := TX11) (N := 15) hx hb ht zinX11 hown hK hP 0 rfl rfl 14 (by decide) (ht _ zw_390) (fun _ h9 => h9) rfl dX11_errors_1 ?_
  refine lv_aload_n hx hb dX11_errors_4 rfl (lv_at hl 0 rfl) ?_
  refine va_get (D := D) (ci := 11) (v := .ref (h 1)) (C := RX11) (T := TX11) (N := 15) hx hb ht zinX11 hown hK hP 0 rfl rfl 0 (by decide) (ht _ zw_353) (fun _ h9 => h9) rfl dX11_errors_5 ?_
  have hPc := hP.sub (ws' := [((h 1), .inr (8, [.ref (h 2), .int 0, .ref (h 3), .ref (h 4), .int 0, .ref (h 5), .int 0, .ref (h 6), .int 0, .ref (h 7), .int 0])), ((h 4), .inl ((cs 4), 100, .inr (.inr (.inr (.inr (fun _ => none)))))), ((h 48), .inr (5, [.ref (h 49), .ref (h 50), .ref (h 88), .ref (h 89), .ref (h 90), .int (-1), .int 1, .null, .null, .int 0])), ((h 49), .inl ((cs 13), 2048, .inl zI0))]) [1, 2, 6, 7] rfl
  have hDc := hD.sub (ws' := [((h 1), .inr (8, [.ref (h 2), .int 0, .ref (h 3), .ref (h 4), .int 0, .ref (h 5), .int 0, .ref (h 6), .int 0, .ref (h 7), .int 0])), ((h 4), .inl ((cs 4), 100, .inr (.inr (.inr (.inr (fun _ => none)))))), ((h 48), .inr (5, [.ref (h 49), .ref (h 50), .ref (h 88), .ref (h 89), .ref (h 90), .int (-1), .int 1, .null, .null, .int 0])), ((h 49), .inl ((cs 13), 2048, .inl zI0))]) [1, 2, 6, 7] (by decide) rfl
  have hKc := hK.sub (tys' := [((cs 4), .object RX4), ((cs 13), .int)]) [0, 1] rfl
  have hFc := va_free (wc := [((h 1), .inr (8, [.ref (h 2), .int 0, .ref (h 3), .ref (h 4), .int 0, .ref (h 5), .int 0, .ref (h 6), .int 0, .ref (h 7), .int 0])), ((h 4), .inl ((cs 4), 100, .inr (.inr (.inr (.inr (fun _ => none)))))), ((h 48), .inr (5, [.ref (h 49), .ref (h 50), .ref (h 88), .ref (h 89), .ref (h 90), .int (-1), .int 1, .null, .null, .int 0])), ((h 49), .inl ((cs 13), 2048, .inl zI0))]) hD hS hA [1, 2, 6, 7] rfl
  refine va_callv (va_runV (As := [.ref (h 1)]) (rest := []) ⟨hx, hb, hml, hown, ht⟩ (k_X5_renew l _ D h cs) (cwV 1 ht (zG_V zw_574 zw_575 zw_576 zw_387 zw_577) rfl rfl rfl (by decide +kernel) ⟨Nat.le_of_ble_eq_true rfl, Nat.le_of_ble_eq_true rfl⟩) (zM_V (va_recv hK hP (ci := 5) (q0 := 6) rfl rfl) hPc hKc hDc) rfl rfl hl.1 rfl (lv_room (Nat.le_of_ble_eq_true rfl)) dX11_errors_8 ⟨Nat.le_of_ble_eq_true rfl, Nat.le_of_ble_eq_true rfl⟩) hS (fun q _ h => hFc q h) hFc (fun u_1 t H1 locs ht0 hvm hw_1 hB hz1 hk1 hS => ?_)
  obtain ⟨hP1, hK1, hD1⟩ := hB
  rw [ht0] at hP1
  have hK1 := va_K.moved hvm.symm hK1
  obtain ⟨hP, hD⟩ := va_join (wr := [((h 0), .inr (11, [.ref (h 1), .ref (h 9), .int 0, .int 0, .ref (h 20), .ref (h 37), .int 0, .ref (h 38), .ref (h 42), .ref (h 43), .ref (h 44), .ref (h 45), .ref (h 46), .ref (h 47), .ref (h 48)])), ((h 7), .inl ((cs 0), 4, .inr (.inr (.inr (.inr fn))))), ((h 8), .inr (0, [.ref (h 102), .ref (h 103), .int 0])), ((h 46), .inr (1, [.ref (h 84), .ref (h 85), .ref (h 86), .ref (h 87), .int 0, .int 0, .int (-1), .int 0, .int (-1), .int (-1), .int 0])), ((h 50), .inl ((cs 13), 2048, .inl zI0))]) (w1 := [((h 1), .inr (8, [.ref (h 2), .int 0, .ref (h 3), .ref (h 4), .int 0, .ref (h 5), .int 0, .ref (h 6), .int 0, .ref (h 7), .int 0])), ((h 4), .inl ((cs 4), 100, .inr (.inr (.inr (.inr (fun _ => none)))))), ((h 48), .inr (5, [.ref (h 49), .ref (h 50), .ref (h 88), .ref (h 89), .ref (h 90), .int 0, .int 1, .null, .null, .int 0])), ((h 49), .inl ((cs 13), 2048, .inl (upd zI0 0 1)))]) hP hD [1, 2, 6, 7] [0, 3, 4, 5, 8] rfl rfl (by decide) (by decide) hk1 hFc hP1 hD1
  generalize H1 = H at hP hS ⊢
  have hP : va_P D vwCl [((h 0), .inr (11, [.ref (h 1), .ref (h 9), .int 0, .int 0, .ref (h 20), .ref (h 37), .int 0, .ref (h 38), .ref (h 42), .ref (h 43), .ref (h 44), .ref (h 45), .ref (h 46), .ref (h 47), .ref (h 48)])), ((h 7), .inl ((cs 0), 4, .inr (.inr (.inr (.inr fn))))), ((h 8), .inr (0, [.ref (h 102), .ref (h 103), .int 0])), ((h 46), .inr (1, [.ref (h 84), .ref (h 85), .ref (h 86), .ref (h 87), .int 0, .int 0, .int (-1), .int 0, .int (-1), .int (-1), .int 0])), ((h 50), .inl ((cs 13), 2048, .inl zI0)), ((h 1), .inr (8, [.ref (h 2), .int 0, .ref (h 3), .ref (h 4), .int 0, .ref (h 5), .int 0, .ref (h 6), .int 0, .ref (h 7), .int 0])), ((h 4), .inl ((cs 4), 100, .inr (.inr (.inr (.inr (fun _ => none)))))), ((h 48), .inr (5, [.ref (h 49), .ref (h 50), .ref (h 88), .ref (h 89), .ref (h 90), .int 0, .int 1, .null, .null, .int 0])), ((h 49), .inl ((cs 13), 2048, .inl (upd zI0 0 1)))] H := hP
  have hD : va_D A [((h 0), .inr (11, [.ref (h 1), .ref (h 9), .int 0, .int 0, .ref (h 20), .ref (h 37), .int 0, .ref (h 38), .ref (h 42), .ref (h 43), .ref (h 44), .ref (h 45), .ref (h 46), .ref (h 47), .ref (h 48)])), ((h 7), .inl ((cs 0), 4, .inr (.inr (.inr (.inr fn))))), ((h 8), .inr (0, [.ref (h 102), .ref (h 103), .int 0])), ((h 46), .inr (1, [.ref (h 84), .ref (h 85), .ref (h 86), .ref (h 87), .int 0, .int 0, .int (-1), .int 0, .int (-1), .int (-1), .int 0])), ((h 50), .inl ((cs 13), 2048, .inl zI0)), ((h 1), .inr (8, [.ref (h 2), .int 0, .ref (h 3), .ref (h 4), .int 0, .ref (h 5), .int 0, .ref (h 6), .int 0, .ref (h 7), .int 0])), ((h 4), .inl ((cs 4), 100, .inr (.inr (.inr (.inr (fun _ => none)))))), ((h 48), .inr (5, [.ref (h 49), .ref (h 50), .ref (h 88), .ref (h 89), .ref (h 90), .int 0, .int 1, .null, .null, .int 0])), ((h 49), .inl ((cs 13), 2048, .inl (upd zI0 0 1)))] := hD
  refine lv_iconst (v := 0) hx hb dX11_errors_11 (by decide) ?_
  refine lv_istore_n (lv' := [(1, .int 0), (0, .ref (h 0))]) hx hb dX11_errors_12 rfl hl (by decide) rfl (fun ls hl => ?_)
  refine lv_iconst (v := 0) hx hb dX11_errors_13 (by decide) ?_
  refine lv_istore_n (lv' := [(2, .int 0), (1, .int 0), (0, .ref (h 0))]) hx hb dX11_errors_14 rfl hl (by decide) rfl (fun ls hl => ?_)
  have hloop_2 : ∀ (n_2 : Nat) (x2 : Int32), 0 ≤ x2.toInt → x2.toInt ≤ 100 → 100 - x2.toInt < n_2 → ∀ (ls : Array Slot), lv_has ls 5 [(2, .int x2), (1, .int 0), (0, .ref (h 0))] → W p l e (headSpec (.code yX11_errors cX11_errors 5 (some .int) :: zT) ({ frames := 4, cells := 0, slots := 0, locals := 86 })).room s m (([.ref (h 0)] : List Value)).toArray below meth c H locs 0 0 (MQ below (va_Qi (fun (r : Int32) (_ : Unit) => r = 0) (fun _ t => zE D [] [] A t) A) (([.ref (h 0)] : List Value)).toArray s 0 0 A) (F0 m 15 ls []) := by
    intro n_2
    induction n_2 with
    | zero => intro x2 hx0 hx1 hx2; intros; exfalso; omega
    | succ n_2 ih_2 =>
      intro x2 hlo_2 hhi_2 hms_2 ls hl
      refine lv_iload_n hx hb dX11_errors_15 rfl (lv_at hl 0 rfl) ?_
      refine lv_bipush (v := 100) hx hb dX11_errors_16 (by decide) ?_
      refine lv_icmp_ge (tgt := 100) hx hb dX11_errors_18 (by decide) (fun c_3 => ?_) (fun c_3 => ?_)
      · skip
        simp only [fa_lt, fa_le, fa_eq, Int32.reduceToInt] at c_3
        refine lv_aload_n hx hb dX11_errors_100 rfl (lv_at hl 2 rfl) ?_
        refine va_get (D := D) (ci := 11) (v := .ref (h 48)) (C := RX11) (T := TX11) (N := 15) hx hb ht zinX11 hown hK hP 0 rfl rfl 14 (by decide) (ht _ zw_390) (fun _ h9 => h9) rfl dX11_errors_101 ?_
        refine lv_aload_n hx hb dX11_errors_104 rfl (lv_at hl 2 rfl) ?_
        refine va_get (D := D) (ci := 11) (v := .ref (h 1)) (C := RX11) (T := TX11) (N := 15) hx hb ht zinX11 hown hK hP 0 rfl rfl 0 (by decide) (ht _ zw_353) (fun _ h9 => h9) rfl dX11_errors_105 ?_
        have hPc := hP.sub (ws' := [((h 1), .inr (8, [.ref (h 2), .int 0, .ref (h 3), .ref (h 4), .int 0, .ref (h 5), .int 0, .ref (h 6), .int 0, .ref (h 7), .int 0])), ((h 48), .inr (5, [.ref (h 49), .ref (h 50), .ref (h 88), .ref (h 89), .ref (h 90), .int 0, .int 1, .null, .null, .int 0])), ((h 49), .inl ((cs 13), 2048, .inl (upd zI0 0 1))), ((h 50), .inl ((cs 13), 2048, .inl zI0))]) [5, 7, 8, 4] rfl
        have hDc := hD.sub (ws' := [((h 1), .inr (8, [.ref (h 2), .int 0, .ref (h 3), .ref (h 4), .int 0, .ref (h 5), .int 0, .ref (h 6), .int 0, .ref (h 7), .int 0])), ((h 48), .inr (5, [.ref (h 49), .ref (h 50), .ref (h 88), .ref (h 89), .ref (h 90), .int 0, .int 1, .null, .null, .int 0])), ((h 49), .inl ((cs 13), 2048, .inl (upd zI0 0 1))), ((h 50), .inl ((cs 13), 2048, .inl zI0))]) [5, 7, 8, 4] (by decide) rfl
        have hKc := hK.sub (tys' := [((cs 13), .int)]) [1] rfl
        have hFc := va_free (wc := [((h 1), .inr (8, [.ref (h 2), .int 0, .ref (h 3), .ref (h 4), .int 0, .ref (h 5), .int 0, .ref (h 6), .int 0, .ref (h 7), .int 0])), ((h 48), .inr (5, [.ref (h 49), .ref (h 50), .ref (h 88), .ref (h 89), .ref (h 90), .int 0, .int 1, .null, .null, .int 0])), ((h 49), .inl ((cs 13), 2048, .inl (upd zI0 0 1))), ((h 50), .inl ((cs 13), 2048, .inl zI0))]) hD hS hA [5, 7, 8, 4] rfl
        refine va_callv (va_runV (As := [.ref (h 1)]) (rest := []) ⟨hx, hb, hml, hown, ht⟩ (k_X5_limitToAssumptions l _ D h cs) (cwV 1 ht (zG_V zw_584 zw_585 zw_586 zw_387 zw_587) rfl rfl rfl (by decide +kernel) ⟨Nat.le_of_ble_eq_true rfl, Nat.le_of_ble_eq_true rfl⟩) (zM_V (va_recv hK hP (ci := 5) (q0 := 7) rfl rfl) hPc hKc hDc) rfl rfl hl.1 rfl (lv_room (Nat.le_of_ble_eq_true rfl)) dX11_errors_108 ⟨Nat.le_of_ble_eq_true rfl, Nat.le_of_ble_eq_true rfl⟩) hS (fun q _ h => hFc q h) hFc (fun u_4 t H1 locs ht0 hvm hw_4 hB hz1 hk1 hS => ?_)
        obtain ⟨hP1, hK1, hD1⟩ := hB
        rw [ht0] at hP1
        have hK1 := va_K.moved hvm.symm hK1
        obtain ⟨hP, hD⟩ := va_join (wr := [((h 0), .inr (11, [.ref (h 1), .ref (h 9), .int 0, .int 0, .ref (h 20), .ref (h 37), .int 0, .ref (h 38), .ref (h 42), .ref (h 43), .ref (h 44), .ref (h 45), .ref (h 46), .ref (h 47), .ref (h 48)])), ((h 7), .inl ((cs 0), 4, .inr (.inr (.inr (.inr fn))))), ((h 8), .inr (0, [.ref (h 102), .ref (h 103), .int 0])), ((h 46), .inr (1, [.ref (h 84), .ref (h 85), .ref (h 86), .ref (h 87), .int 0, .int 0, .int (-1), .int 0, .int (-1), .int (-1), .int 0])), ((h 4), .inl ((cs 4), 100, .inr (.inr (.inr (.inr (fun _ => none))))))]) (w1 := [((h 1), .inr (8, [.ref (h 2), .int 0, .ref (h 3), .ref (h 4), .int 0, .ref (h 5), .int 0, .ref (h 6), .int 0, .ref (h 7), .int 0])), ((h 48), .inr (5, [.ref (h 49), .ref (h 50), .ref (h 88), .ref (h 89), .ref (h 90), .int 0, .int 1, .null, .null, .int 0])), ((h 49), .inl ((cs 13), 2048, .inl (upd zI0 0 1)))]) hP hD [5, 7, 8, 4] [0, 1, 2, 3, 6] rfl rfl (by decide) (by decide) hk1 hFc hP1 hD1
        generalize H1 = H at hP hS ⊢
        have hP : va_P D vwCl [((h 0), .inr (11, [.ref (h 1), .ref (h 9), .int 0, .int 0, .ref (h 20), .ref (h 37), .int 0, .ref (h 38), .ref (h 42), .ref (h 43), .ref (h 44), .ref (h 45), .ref (h 46), .ref (h 47), .ref (h 48)])), ((h 7), .inl ((cs 0), 4, .inr (.inr (.inr (.inr fn))))), ((h 8), .inr (0, [.ref (h 102), .ref (h 103), .int 0])), ((h 46), .inr (1, [.ref (h 84), .ref (h 85), .ref (h 86), .ref (h 87), .int 0, .int 0, .int (-1), .int 0, .int (-1), .int (-1), .int 0])), ((h 4), .inl ((cs 4), 100, .inr (.inr (.inr (.inr (fun _ => none)))))), ((h 1), .inr (8, [.ref (h 2), .int 0, .ref (h 3), .ref (h 4), .int 0, .ref (h 5), .int 0, .ref (h 6), .int 0, .ref (h 7), .int 0])), ((h 48), .inr (5, [.ref (h 49), .ref (h 50), .ref (h 88), .ref (h 89), .ref (h 90), .int 0, .int 1, .null, .null, .int 0])), ((h 49), .inl ((cs 13), 2048, .inl (upd zI0 0 1)))] H := hP
        have hD : va_D A [((h 0), .inr (11, [.ref (h 1), .ref (h 9), .int 0, .int 0, .ref (h 20), .ref (h 37), .int 0, .ref (h 38), .ref (h 42), .ref (h 43), .ref (h 44), .ref (h 45), .ref (h 46), .ref (h 47), .ref (h 48)])), ((h 7), .inl ((cs 0), 4, .inr (.inr (.inr (.inr fn))))), ((h 8), .inr (0, [.ref (h 102), .ref (h 103), .int 0])), ((h 46), .inr (1, [.ref (h 84), .ref (h 85), .ref (h 86), .ref (h 87), .int 0, .int 0, .int (-1), .int 0, .int (-1), .int (-1), .int 0])), ((h 4), .inl ((cs 4), 100, .inr (.inr (.inr (.inr (fun _ => none)))))), ((h 1), .inr (8, [.ref (h 2), .int 0, .ref (h 3), .ref (h 4), .int 0, .ref (h 5), .int 0, .ref (h 6), .int 0, .ref (h 7), .int 0])), ((h 48), .inr (5, [.ref (h 49), .ref (h 50), .ref (h 88), .ref (h 89), .ref (h 90), .int 0, .int 1, .null, .null, .int 0])), ((h 49), .inl ((cs 13), 2048, .inl (upd zI0 0 1)))] := hD
        refine lv_iconst (v := 0) hx hb dX11_errors_111 (by decide) ?_
        refine lv_istore_n (lv' := [(2, .int 0), (1, .int 0), (0, .ref (h 0))]) hx hb dX11_errors_112 rfl hl (by decide) rfl (fun ls hl => ?_)
        refine lv_iload_n hx hb dX11_errors_113 rfl (lv_at hl 0 rfl) ?_
        refine lv_iconst (v := 4) hx hb dX11_errors_114 (by decide) ?_
        refine lv_icmp_ge (tgt := 201) hx hb dX11_errors_115 (by decide) (fun c_5 => ?_) (fun c_5 => ?_)
        · skip
          exact absurd c_5 (by decide)
        · skip
          refine lv_aload_n hx hb dX11_errors_118 rfl (lv_at hl 2 rfl) ?_
          refine va_get (D := D) (ci := 11) (v := .ref (h 46)) (C := RX11) (T := TX11) (N := 15) hx hb ht zinX11 hown hK hP 0 rfl rfl 12 (by decide) (ht _ zw_378) (fun _ h9 => h9) rfl dX11_errors_119 ?_
          refine lv_aload_n hx hb dX11_errors_122 rfl (lv_at hl 2 rfl) ?_
          refine va_get (D := D) (ci := 11) (v := .ref (h 1)) (C := RX11) (T := TX11) (N := 15) hx hb ht zinX11 hown hK hP 0 rfl rfl 0 (by decide) (ht _ zw_353) (fun _ h9 => h9) rfl dX11_errors_123 ?_
          refine lv_aload_n hx hb dX11_errors_126 rfl (lv_at hl 2 rfl) ?_
          refine va_get (D := D) (ci := 11) (v := .ref (h 1)) (C := RX11) (T := TX11) (N := 15) hx hb ht zinX11 hown hK hP 0 rfl rfl 0 (by decide) (ht _ zw_353) (fun _ h9 => h9) rfl dX11_errors_127 ?_
          refine va_get (D := D) (ci := 8) (v := .ref (h 7)) (C := RX8) (T := TX8) (N := 11) hx hb ht zinX8 hown hK hP 5 rfl rfl 9 (by decide) (ht _ zw_452) (fun _ h9 => h9) rfl dX11_errors_130 ?_
          refine lv_iload_n hx hb dX11_errors_133 rfl (lv_at hl 0 rfl) ?_
          refine va_aldq hx hb hK hP 1 2 rfl rfl (vp_in_iff.mpr (by decide)) dX11_errors_134 ?_
          refine W.eq (g2 := F0 m 135 ls (.ref (h 8) :: .ref (h 1) :: .ref (h 46) :: [])) (by show F0 m _ ls (va_rf (fn 0) :: _) = _; rw [hn _ (by decide)]; rfl) ?_
          refine lv_aload_n hx hb dX11_errors_135 rfl (lv_at hl 2 rfl) ?_
          refine va_get (D := D) (ci := 11) (v := .ref (h 1)) (C := RX11) (T := TX11) (N := 15) hx hb ht zinX11 hown hK hP 0 rfl rfl 0 (by decide) (ht _ zw_353) (fun _ h9 => h9) rfl dX11_errors_136 ?_
          refine vp_callSi (va_runV (As := []) (rest := [.ref (h 8), .ref (h 1), .ref (h 46)]) ⟨hx, hb, hml, hown, ht⟩ (k_X8_allOpen l D h cs) (cwV 0 ht (zG_V zw_433 zw_434 zw_435 zw_334 zw_436) rfl rfl rfl (by decide +kernel) ⟨Nat.le_of_ble_eq_true rfl, Nat.le_of_ble_eq_true rfl⟩) (zR_V (va_recv hK hP (ci := 8) (q0 := 5) rfl rfl) (hP.sub (ws' := [((h 1), .inr (8, [.ref (h 2), .int 0, .ref (h 3), .ref (h 4), .int 0, .ref (h 5), .int 0, .ref (h 6), .int 0, .ref (h 7), .int 0]))]) [5] rfl) (hK.sub (tys' := []) [] rfl)) rfl rfl hl.1 rfl (lv_room (Nat.le_of_ble_eq_true rfl)) dX11_errors_139 ⟨Nat.le_of_ble_eq_true rfl, Nat.le_of_ble_eq_true rfl⟩).run (fun r_7 hw_7 => ?_)
          obtain rfl : r_7 = 0 := hw_7
          have hPc := hP.sub (ws' := [((h 46), .inr (1, [.ref (h 84), .ref (h 85), .ref (h 86), .ref (h 87), .int 0, .int 0, .int (-1), .int 0, .int (-1), .int (-1), .int 0])), ((h 8), .inr (0, [.ref (h 102), .ref (h 103), .int 0]))]) [3, 2] rfl
          have hDc := hD.sub (ws' := [((h 46), .inr (1, [.ref (h 84), .ref (h 85), .ref (h 86), .ref (h 87), .int 0, .int 0, .int (-1), .int 0, .int (-1), .int (-1), .int 0])), ((h 8), .inr (0, [.ref (h 102), .ref (h 103), .int 0]))]) [3, 2] (by decide) rfl
          have hKc := hK.sub (tys' := []) [] rfl
          have hFc := va_free (wc := [((h 46), .inr (1, [.ref (h 84), .ref (h 85), .ref (h 86), .ref (h 87), .int 0, .int 0, .int (-1), .int 0, .int (-1), .int (-1), .int 0])), ((h 8), .inr (0, [.ref (h 102), .ref (h 103), .int 0]))]) hD hS hA [3, 2] rfl
          refine va_callv (va_runV (As := [.ref (h 1), .ref (h 8), .int 0]) (rest := []) ⟨hx, hb, hml, hown, ht⟩ (k_X1_judge l _ D h cs 0) (cwV 3 ht (zG_V zw_458 zw_459 zw_460 zw_375 zw_461) rfl rfl rfl (by decide +kernel) ⟨Nat.le_of_ble_eq_true rfl, Nat.le_of_ble_eq_true rfl⟩) (zM_V (va_recv hK hP (ci := 1) (q0 := 3) rfl rfl) hPc hKc hDc) rfl rfl hl.1 rfl (lv_room (Nat.le_of_ble_eq_true rfl)) dX11_errors_142 ⟨Nat.le_of_ble_eq_true rfl, Nat.le_of_ble_eq_true rfl⟩) hS (fun q _ h => hFc q h) hFc (fun u_8 t H1 locs ht0 hvm hw_8 hB hz1 hk1 hS => ?_)
          obtain ⟨hP1, hK1, hD1⟩ := hB
          rw [ht0] at hP1
          have hK1 := va_K.moved hvm.symm hK1
          obtain ⟨hP, hD⟩ := va_join (wr := [((h 0), .inr (11, [.ref (h 1), .ref (h 9), .int 0, .int 0, .ref (h 20), .ref (h 37), .int 0, .ref (h 38), .ref (h 42), .ref (h 43), .ref (h 44), .ref (h 45), .ref (h 46), .ref (h 47), .ref (h 48)])), ((h 7), .inl ((cs 0), 4, .inr (.inr (.inr (.inr fn))))), ((h 4), .inl ((cs 4), 100, .inr (.inr (.inr (.inr (fun _ => none)))))), ((h 1), .inr (8, [.ref (h 2), .int 0, .ref (h 3), .ref (h 4), .int 0, .ref (h 5), .int 0, .ref (h 6), .int 0, .ref (h 7), .int 0])), ((h 48), .inr (5, [.ref (h 49), .ref (h 50), .ref (h 88), .ref (h 89), .ref (h 90), .int 0, .int 1, .null, .null, .int 0])), ((h 49), .inl ((cs 13), 2048, .inl (upd zI0 0 1)))]) (w1 := [((h 46), .inr (1, [.ref (h 84), .ref (h 85), .ref (h 86), .ref (h 87), .int 0, .int 0, .int (-1), .int 0, .int (-1), .int (-1), .int 0])), ((h 8), .inr (0, [.ref (h 102), .ref (h 103), .int 0]))]) hP hD [3, 2] [0, 1, 4, 5, 6, 7] rfl rfl (by decide) (by decide) hk1 hFc hP1 hD1
          generalize H1 = H at hP hS ⊢
          have hP : va_P D vwCl [((h 0), .inr (11, [.ref (h 1), .ref (h 9), .int 0, .int 0, .ref (h 20), .ref (h 37), .int 0, .ref (h 38), .ref (h 42), .ref (h 43), .ref (h 44), .ref (h 45), .ref (h 46), .ref (h 47), .ref (h 48)])), ((h 7), .inl ((cs 0), 4, .inr (.inr (.inr (.inr fn))))), ((h 4), .inl ((cs 4), 100, .inr (.inr (.inr (.inr (fun _ => none)))))), ((h 1), .inr (8, [.ref (h 2), .int 0, .ref (h 3), .ref (h 4), .int 0, .ref (h 5), .int 0, .ref (h 6), .int 0, .ref (h 7), .int 0])), ((h 48), .inr (5, [.ref (h 49), .ref (h 50), .ref (h 88), .ref (h 89), .ref (h 90), .int 0, .int 1, .null, .null, .int 0])), ((h 49), .inl ((cs 13), 2048, .inl (upd zI0 0 1))), ((h 46), .inr (1, [.ref (h 84), .ref (h 85), .ref (h 86), .ref (h 87), .int 0, .int 0, .int (-1), .int 0, .int (-1), .int (-1), .int 0])), ((h 8), .inr (0, [.ref (h 102), .ref (h 103), .int 0]))] H := hP
          have hD : va_D A [((h 0), .inr (11, [.ref (h 1), .ref (h 9), .int 0, .int 0, .ref (h 20), .ref (h 37), .int 0, .ref (h 38), .ref (h 42), .ref (h 43), .ref (h 44), .ref (h 45), .ref (h 46), .ref (h 47), .ref (h 48)])), ((h 7), .inl ((cs 0), 4, .inr (.inr (.inr (.inr fn))))), ((h 4), .inl ((cs 4), 100, .inr (.inr (.inr (.inr (fun _ => none)))))), ((h 1), .inr (8, [.ref (h 2), .int 0, .ref (h 3), .ref (h 4), .int 0, .ref (h 5), .int 0, .ref (h 6), .int 0, .ref (h 7), .int 0])), ((h 48), .inr (5, [.ref (h 49), .ref (h 50), .ref (h 88), .ref (h 89), .ref (h 90), .int 0, .int 1, .null, .null, .int 0])), ((h 49), .inl ((cs 13), 2048, .inl (upd zI0 0 1))), ((h 46), .inr (1, [.ref (h 84), .ref (h 85), .ref (h 86), .ref (h 87), .int 0, .int 0, .int (-1), .int 0, .int (-1), .int (-1), .int 0])), ((h 8), .inr (0, [.ref (h 102), .ref (h 103), .int 0]))] := hD
          refine lv_aload_n hx hb dX11_errors_145 rfl (lv_at hl 2 rfl) ?_
          refine va_get (D := D) (ci := 11) (v := .ref (h 46)) (C := RX11) (T := TX11) (N := 15) hx hb ht zinX11 hown hK hP 0 rfl rfl 12 (by decide) (ht _ zw_378) (fun _ h9 => h9) rfl dX11_errors_146 ?_
          refine lv_aload_n hx hb dX11_errors_149 rfl (lv_at hl 2 rfl) ?_
          refine va_get (D := D) (ci := 11) (v := .ref (h 1)) (C := RX11) (T := TX11) (N := 15) hx hb ht zinX11 hown hK hP 0 rfl rfl 0 (by decide) (ht _ zw_353) (fun _ h9 => h9) rfl dX11_errors_150 ?_
          refine va_get (D := D) (ci := 8) (v := .ref (h 7)) (C := RX8) (T := TX8) (N := 11) hx hb ht zinX8 hown hK hP 3 rfl rfl 9 (by decide) (ht _ zw_452) (fun _ h9 => h9) rfl dX11_errors_153 ?_
          refine lv_iload_n hx hb dX11_errors_156 rfl (lv_at hl 0 rfl) ?_
          refine va_aldq hx hb hK hP 1 2 rfl rfl (vp_in_iff.mpr (by decide)) dX11_errors_157 ?_
          refine W.eq (g2 := F0 m 158 ls (.ref (h 8) :: .ref (h 46) :: [])) (by show F0 m _ ls (va_rf (fn 0) :: _) = _; rw [hn _ (by decide)]; rfl) ?_
          refine lv_iconst (v := (-1)) hx hb dX11_errors_158 (by decide) ?_
          refine va_csq (va_runV (As := [.ref (h 8), .int (-1)]) (rest := []) ⟨hx, hb, hml, hown, ht⟩ (k_X1_chainLaw l D h cs (-1)) (cwV 2 ht (zG_V zw_448 zw_449 zw_450 zw_375 zw_451) rfl rfl rfl (by decide +kernel) ⟨Nat.le_of_ble_eq_true rfl, Nat.le_of_ble_eq_true rfl⟩) (zR_V (va_recv hK hP (ci := 1) (q0 := 6) rfl rfl) (hP.sub (ws' := [((h 46), .inr (1, [.ref (h 84), .ref (h 85), .ref (h 86), .ref (h 87), .int 0, .int 0, .int (-1), .int 0, .int (-1), .int (-1), .int 0])), ((h 8), .inr (0, [.ref (h 102), .ref (h 103), .int 0]))]) [6, 7] rfl) (hK.sub (tys' := []) [] rfl)) rfl rfl hl.1 rfl (lv_room (Nat.le_of_ble_eq_true rfl)) dX11_errors_159 ⟨Nat.le_of_ble_eq_true rfl, Nat.le_of_ble_eq_true rfl⟩).run (fun r_10 hw_10 => ?_)
          obtain rfl := hw_10
          refine W.eq (g2 := F0 m 162 ls (.null :: [])) rfl ?_
          refine lv_astore_nN (lv' := [(3, .null), (2, .int 0), (1, .int 0), (0, .ref (h 0))]) hx hb dX11_errors_162 rfl hl (by decide) rfl (fun ls hl => ?_)
          refine lv_iload_n hx hb dX11_errors_163 rfl (lv_at hl 2 rfl) ?_
          refine lv_aload_nN hx hb dX11_errors_164 rfl (lv_at hl 0 rfl) ?_
          refine lv_ifnullN (tgt := 192) hx hb dX11_errors_165 (by decide) ?_
          refine lv_iconst (v := 0) hx hb dX11_errors_192 (by decide) ?_
          refine lv_iadd hx hb dX11_errors_193 ?_
          refine lv_topi (fun x_11 e_11 => ?_)
          obtain rfl : x_11 = 0 := e_11.trans (by decide)
          refine lv_istore_n (lv' := [(1, .int 0), (3, .null), (2, .int 0), (0, .ref (h 0))]) hx hb dX11_errors_194 rfl hl (by decide) rfl (fun ls hl => ?_)
          refine lv_iinc (v := 1) (lv' := [(2, .int 1), (1, .int 0), (3, .null), (0, .ref (h 0))]) hx hb dX11_errors_195 hl (k := 2) rfl (by decide) (by decide) rfl (fun ls hl => ?_)
          refine lv_goto (tgt := 113) hx hb dX11_errors_198 (by decide) ?_
          refine lv_iload_n hx hb dX11_errors_113 rfl (lv_at hl 0 rfl) ?_
          refine lv_iconst (v := 4) hx hb dX11_errors_114 (by decide) ?_
          refine lv_icmp_ge (tgt := 201) hx hb dX11_errors_115 (by decide) (fun c_13 => ?_) (fun c_13 => ?_)
          · skip
            exact absurd c_13 (by decide)
          · skip
            refine lv_aload_n hx hb dX11_errors_118 rfl (lv_at hl 3 rfl) ?_
            refine va_get (D := D) (ci := 11) (v := .ref (h 46)) (C := RX11) (T := TX11) (N := 15) hx hb ht zinX11 hown hK hP 0 rfl rfl 12 (by decide) (ht _ zw_378) (fun _ h9 => h9) rfl dX11_errors_119 ?_
            refine lv_aload_n hx hb dX11_errors_122 rfl (lv_at hl 3 rfl) ?_
            refine va_get (D := D) (ci := 11) (v := .ref (h 1)) (C := RX11) (T := TX11) (N := 15) hx hb ht zinX11 hown hK hP 0 rfl rfl 0 (by decide) (ht _ zw_353) (fun _ h9 => h9) rfl dX11_errors_123 ?_
            refine lv_aload_n hx hb dX11_errors_126 rfl (lv_at hl 3 rfl) ?_
            refine va_get (D := D) (ci := 11) (v := .ref (h 1)) (C := RX11) (T := TX11) (N := 15) hx hb ht zinX11 hown hK hP 0 rfl rfl 0 (by decide) (ht _ zw_353) (fun _ h9 => h9) rfl dX11_errors_127 ?_
            refine va_get (D := D) (ci := 8) (v := .ref (h 7)) (C := RX8) (T := TX8) (N := 11) hx hb ht zinX8 hown hK hP 3 rfl rfl 9 (by decide) (ht _ zw_452) (fun _ h9 => h9) rfl dX11_errors_130 ?_
            refine lv_iload_n hx hb dX11_errors_133 rfl (lv_at hl 0 rfl) ?_
            refine va_aldq hx hb hK hP 1 2 rfl rfl (vp_in_iff.mpr (by decide)) dX11_errors_134 ?_
            refine W.eq (g2 := F0 m 135 ls (.ref (h 8) :: .ref (h 1) :: .ref (h 46) :: [])) (by show F0 m _ ls (va_rf (fn 1) :: _) = _; rw [hn _ (by decide)]; rfl) ?_
            refine lv_aload_n hx hb dX11_errors_135 rfl (lv_at hl 3 rfl) ?_
            refine va_get (D := D) (ci := 11) (v := .ref (h 1)) (C := RX11) (T := TX11) (N := 15) hx hb ht zinX11 hown hK hP 0 rfl rfl 0 (by decide) (ht _ zw_353) (fun _ h9 => h9) rfl dX11_errors_136 ?_
            refine vp_callSi (va_runV (As := []) (rest := [.ref (h 8), .ref (h 1), .ref (h 46)]) ⟨hx, hb, hml, hown, ht⟩ (k_X8_allOpen l D h cs) (cwV 0 ht (zG_V zw_433 zw_434 zw_435 zw_334 zw_436) rfl rfl rfl (by decide +kernel) ⟨Nat.le_of_ble_eq_true rfl, Nat.le_of_ble_eq_true rfl⟩) (zR_V (va_recv hK hP (ci := 8) (q0 := 3) rfl rfl) (hP.sub (ws' := [((h 1), .inr (8, [.ref (h 2), .int 0, .ref (h 3), .ref (h 4), .int 0, .ref (h 5), .int 0, .ref (h 6), .int 0, .ref (h 7), .int 0]))]) [3] rfl) (hK.sub (tys' := []) [] rfl)) rfl rfl hl.1 rfl (lv_room (Nat.le_of_ble_eq_true rfl)) dX11_errors_139 ⟨Nat.le_of_ble_eq_true rfl, Nat.le_of_ble_eq_true rfl⟩).run (fun r_15 hw_15 => ?_)
            obtain rfl : r_15 = 0 := hw_15
            have hPc := hP.sub (ws' := [((h 46), .inr (1, [.ref (h 84), .ref (h 85), .ref (h 86), .ref (h 87), .int 0, .int 0, .int (-1), .int 0, .int (-1), .int (-1), .int 0])), ((h 8), .inr (0, [.ref (h 102), .ref (h 103), .int 0]))]) [6, 7] rfl
            have hDc := hD.sub (ws' := [((h 46), .inr (1, [.ref (h 84), .ref (h 85), .ref (h 86), .ref (h 87), .int 0, .int 0, .int (-1), .int 0, .int (-1), .int (-1), .int 0])), ((h 8), .inr (0, [.ref (h 102), .ref (h 103), .int 0]))]) [6, 7] (by decide) rfl
            have hKc := hK.sub (tys' := []) [] rfl
            have hFc := va_free (wc := [((h 46), .inr (1, [.ref (h 84), .ref (h 85), .ref (h 86), .ref (h 87), .int 0, .int 0, .int (-1), .int 0, .int (-1), .int (-1), .int 0])), ((h 8), .inr (0, [.ref (h 102), .ref (h 103), .int 0]))]) hD hS hA [6, 7] rfl
            refine va_callv (va_runV (As := [.ref (h 1), .ref (h 8), .int 0]) (rest := []) ⟨hx, hb, hml, hown, ht⟩ (k_X1_judge l _ D h cs 0) (cwV 3 ht (zG_V zw_458 zw_459 zw_460 zw_375 zw_461) rfl rfl rfl (by decide +kernel) ⟨Nat.le_of_ble_eq_true rfl, Nat.le_of_ble_eq_true rfl⟩) (zM_V (va_recv hK hP (ci := 1) (q0 := 6) rfl rfl) hPc hKc hDc) rfl rfl hl.1 rfl (lv_room (Nat.le_of_ble_eq_true rfl)) dX11_errors_142 ⟨Nat.le_of_ble_eq_true rfl, Nat.le_of_ble_eq_true rfl⟩) hS (fun q _ h => hFc q h) hFc (fun u_16 t H1 locs ht0 hvm hw_16 hB hz1 hk1 hS => ?_)
            obtain ⟨hP1, hK1, hD1⟩ := hB
            rw [ht0] at hP1
            have hK1 := va_K.moved hvm.symm hK1
            obtain ⟨hP, hD⟩ := va_join (wr := [((h 0), .inr (11, [.ref (h 1), .ref (h 9), .int 0, .int 0, .ref (h 20), .ref (h 37), .int 0, .ref (h 38), .ref (h 42), .ref (h 43), .ref (h 44), .ref (h 45), .ref (h 46), .ref (h 47), .ref (h 48)])), ((h 7), .inl ((cs 0), 4, .inr (.inr (.inr (.inr fn))))), ((h 4), .inl ((cs 4), 100, .inr (.inr (.inr (.inr (fun _ => none)))))), ((h 1), .inr (8, [.ref (h 2), .int 0, .ref (h 3), .ref (h 4), .int 0, .ref (h 5), .int 0, .ref (h 6), .int 0, .ref (h 7), .int 0])), ((h 48), .inr (5, [.ref (h 49), .ref (h 50), .ref (h 88), .ref (h 89), .ref (h 90), .int 0, .int 1, .null, .null, .int 0])), ((h 49), .inl ((cs 13), 2048, .inl (upd zI0 0 1)))]) (w1 := [((h 46), .inr (1, [.ref (h 84), .ref (h 85), .ref (h 86), .ref (h 87), .int 0, .int 0, .int (-1), .int 0, .int (-1), .int (-1), .int 0])), ((h 8), .inr (0, [.ref (h 102), .ref (h 103), .int 0]))]) hP hD [6, 7] [0, 1, 2, 3, 4, 5] rfl rfl (by decide) (by decide) hk1 hFc hP1 hD1
            generalize H1 = H at hP hS ⊢
            have hP : va_P D vwCl [((h 0), .inr (11, [.ref (h 1), .ref (h 9), .int 0, .int 0, .ref (h 20), .ref (h 37), .int 0, .ref (h 38), .ref (h 42), .ref (h 43), .ref (h 44), .ref (h 45), .ref (h 46), .ref (h 47), .ref (h 48)])), ((h 7), .inl ((cs 0), 4, .inr (.inr (.inr (.inr fn))))), ((h 4), .inl ((cs 4), 100, .inr (.inr (.inr (.inr (fun _ => none)))))), ((h 1), .inr (8, [.ref (h 2), .int 0, .ref (h 3), .ref (h 4), .int 0, .ref (h 5), .int 0, .ref (h 6), .int 0, .ref (h 7), .int 0])), ((h 48), .inr (5, [.ref (h 49), .ref (h 50), .ref (h 88), .ref (h 89), .ref (h 90), .int 0, .int 1, .null, .null, .int 0])), ((h 49), .inl ((cs 13), 2048, .inl (upd zI0 0 1))), ((h 46), .inr (1, [.ref (h 84), .ref (h 85), .ref (h 86), .ref (h 87), .int 0, .int 0, .int (-1), .int 0, .int (-1), .int (-1), .int 0])), ((h 8), .inr (0, [.ref (h 102), .ref (h 103), .int 0]))] H := hP
            have hD : va_D A [((h 0), .inr (11, [.ref (h 1), .ref (h 9), .int 0, .int 0, .ref (h 20), .ref (h 37), .int 0, .ref (h 38), .ref (h 42), .ref (h 43), .ref (h 44), .ref (h 45), .ref (h 46), .ref (h 47), .ref (h 48)])), ((h 7), .inl ((cs 0), 4, .inr (.inr (.inr (.inr fn))))), ((h 4), .inl ((cs 4), 100, .inr (.inr (.inr (.inr (fun _ => none)))))), ((h 1), .inr (8, [.ref (h 2), .int 0, .ref (h 3), .ref (h 4), .int 0, .ref (h 5), .int 0, .ref (h 6), .int 0, .ref (h 7), .int 0])), ((h 48), .inr (5, [.ref (h 49), .ref (h 50), .ref (h 88), .ref (h 89), .ref (h 90), .int 0, .int 1, .null, .null, .int 0])), ((h 49), .inl ((cs 13), 2048, .inl (upd zI0 0 1))), ((h 46), .inr (1, [.ref (h 84), .ref (h 85), .ref (h 86), .ref (h 87), .int 0, .int 0, .int (-1), .int 0, .int (-1), .int (-1), .int 0])), ((h 8), .inr (0, [.ref (h 102), .ref (h 103), .int 0]))] := hD
            refine lv_aload_n hx hb dX11_errors_145 rfl (lv_at hl 3 rfl) ?_
            refine va_get (D := D) (ci := 11) (v := .ref (h 46)) (C := RX11) (T := TX11) (N := 15) hx hb ht zinX11 hown hK hP 0 rfl rfl 12 (by decide) (ht _ zw_378) (fun _ h9 => h9) rfl dX11_errors_146 ?_
            refine lv_aload_n hx hb dX11_errors_149 rfl (lv_at hl 3 rfl) ?_
            refine va_get (D := D) (ci := 11) (v := .ref (h 1)) (C := RX11) (T := TX11) (N := 15) hx hb ht zinX11 hown hK hP 0 rfl rfl 0 (by decide) (ht _ zw_353) (fun _ h9 => h9) rfl dX11_errors_150 ?_
            refine va_get (D := D) (ci := 8) (v := .ref (h 7)) (C := RX8) (T := TX8) (N := 11) hx hb ht zinX8 hown hK hP 3 rfl rfl 9 (by decide) (ht _ zw_452) (fun _ h9 => h9) rfl dX11_errors_153 ?_
            refine lv_iload_n hx hb dX11_errors_156 rfl (lv_at hl 0 rfl) ?_
            refine va_aldq hx hb hK hP 1 2 rfl rfl (vp_in_iff.mpr (by decide)) dX11_errors_157 ?_
            refine W.eq (g2 := F0 m 158 ls (.ref (h 8) :: .ref (h 46) :: [])) (by show F0 m _ ls (va_rf (fn 1) :: _) = _; rw [hn _ (by decide)]; rfl) ?_
            refine lv_iconst (v := (-1)) hx hb dX11_errors_158 (by decide) ?_
            refine va_csq (va_runV (As := [.ref (h 8), .int (-1)]) (rest := []) ⟨hx, hb, hml, hown, ht⟩ (k_X1_chainLaw l D h cs (-1)) (cwV 2 ht (zG_V zw_448 zw_449 zw_450 zw_375 zw_451) rfl rfl rfl (by decide +kernel) ⟨Nat.le_of_ble_eq_true rfl, Nat.le_of_ble_eq_true rfl⟩) (zR_V (va_recv hK hP (ci := 1) (q0 := 6) rfl rfl) (hP.sub (ws' := [((h 46), .inr (1, [.ref (h 84), .ref (h 85), .ref (h 86), .ref (h 87), .int 0, .int 0, .int (-1), .int 0, .int (-1), .int (-1), .int 0])), ((h 8), .inr (0, [.ref (h 102), .ref (h 103), .int 0]))]) [6, 7] rfl) (hK.sub (tys' := []) [] rfl)) rfl rfl hl.1 rfl (lv_room (Nat.le_of_ble_eq_true rfl)) dX11_errors_159 ⟨Nat.le_of_ble_eq_true rfl, Nat.le_of_ble_eq_true rfl⟩).run (fun r_18 hw_18 => ?_)
            obtain rfl := hw_18
            refine W.eq (g2 := F0 m 162 ls (.null :: [])) rfl ?_
            refine lv_astore_nN (lv' := [(3, .null), (2, .int 1), (1, .int 0), (0, .ref (h 0))]) hx hb dX11_errors_162 rfl hl (by decide) rfl (fun ls hl => ?_)
            refine lv_iload_n hx hb dX11_errors_163 rfl (lv_at hl 2 rfl) ?_
            refine lv_aload_nN hx hb dX11_errors_164 rfl (lv_at hl 0 rfl) ?_
            refine lv_ifnullN (tgt := 192) hx hb dX11_errors_165 (by decide) ?_
            refine lv_iconst (v := 0) hx hb dX11_errors_192 (by decide) ?_
            refine lv_iadd hx hb dX11_errors_193 ?_
            refine lv_topi (fun x_19 e_19 => ?_)
            obtain rfl : x_19 = 0 := e_19.trans (by decide)
            refine lv_istore_n (lv' := [(1, .int 0), (3, .null), (2, .int 1), (0, .ref (h 0))]) hx hb dX11_errors_194 rfl hl (by decide) rfl (fun ls hl => ?_)
            refine lv_iinc (v := 2) (lv' := [(2, .int 2), (1, .int 0), (3, .null), (0, .ref (h 0))]) hx hb dX11_errors_195 hl (k := 2) rfl (by decide) (by decide) rfl (fun ls hl => ?_)
            refine lv_goto (tgt := 113) hx hb dX11_errors_198 (by decide) ?_
            refine lv_iload_n hx hb dX11_errors_113 rfl (lv_at hl 0 rfl) ?_
            refine lv_iconst (v := 4) hx hb dX11_errors_114 (by decide) ?_
            refine lv_icmp_ge (tgt := 201) hx hb dX11_errors_115 (by decide) (fun c_21 => ?_) (fun c_21 => ?_)
            · skip
              exact absurd c_21 (by decide)
            · skip
              refine lv_aload_n hx hb dX11_errors_118 rfl (lv_at hl 3 rfl) ?_
              refine va_get (D := D) (ci := 11) (v := .ref (h 46)) (C := RX11) (T := TX11) (N := 15) hx hb ht zinX11 hown hK hP 0 rfl rfl 12 (by decide) (ht _ zw_378) (fun _ h9 => h9) rfl dX11_errors_119 ?_
              refine lv_aload_n hx hb dX11_errors_122 rfl (lv_at hl 3 rfl) ?_
              refine va_get (D := D) (ci := 11) (v := .ref (h 1)) (C := RX11) (T := TX11) (N := 15) hx hb ht zinX11 hown hK hP 0 rfl rfl 0 (by decide) (ht _ zw_353) (fun _ h9 => h9) rfl dX11_errors_123 ?_
              refine lv_aload_n hx hb dX11_errors_126 rfl (lv_at hl 3 rfl) ?_
              refine va_get (D := D) (ci := 11) (v := .ref (h 1)) (C := RX11) (T := TX11) (N := 15) hx hb ht zinX11 hown hK hP 0 rfl rfl 0 (by decide) (ht _ zw_353) (fun _ h9 => h9) rfl dX11_errors_127 ?_
              refine va_get (D := D) (ci := 8) (v := .ref (h 7)) (C := RX8) (T := TX8) (N := 11) hx hb ht zinX8 hown hK hP 3 rfl rfl 9 (by decide) (ht _ zw_452) (fun _ h9 => h9) rfl dX11_errors_130 ?_
              refine lv_iload_n hx hb dX11_errors_133 rfl (lv_at hl 0 rfl) ?_
              refine va_aldq hx hb hK hP 1 2 rfl rfl (vp_in_iff.mpr (by decide)) dX11_errors_134 ?_
              refine W.eq (g2 := F0 m 135 ls (.ref (h 8) :: .ref (h 1) :: .ref (h 46) :: [])) (by show F0 m _ ls (va_rf (fn 2) :: _) = _; rw [hn _ (by decide)]; rfl) ?_
              refine lv_aload_n hx hb dX11_errors_135 rfl (lv_at hl 3 rfl) ?_
              refine va_get (D := D) (ci := 11) (v := .ref (h 1)) (C := RX11) (T := TX11) (N := 15) hx hb ht zinX11 hown hK hP 0 rfl rfl 0 (by decide) (ht _ zw_353) (fun _ h9 => h9) rfl dX11_errors_136 ?_
              refine vp_callSi (va_runV (As := []) (rest := [.ref (h 8), .ref (h 1), .ref (h 46)]) ⟨hx, hb, hml, hown, ht⟩ (k_X8_allOpen l D h cs) (cwV 0 ht (zG_V zw_433 zw_434 zw_435 zw_334 zw_436) rfl rfl rfl (by decide +kernel) ⟨Nat.le_of_ble_eq_true rfl, Nat.le_of_ble_eq_true rfl⟩) (zR_V (va_recv hK hP (ci := 8) (q0 := 3) rfl rfl) (hP.sub (ws' := [((h 1), .inr (8, [.ref (h 2), .int 0, .ref (h 3), .ref (h 4), .int 0, .ref (h 5), .int 0, .ref (h 6), .int 0, .ref (h 7), .int 0]))]) [3] rfl) (hK.sub (tys' := []) [] rfl)) rfl rfl hl.1 rfl (lv_room (Nat.le_of_ble_eq_true rfl)) dX11_errors_139 ⟨Nat.le_of_ble_eq_true rfl, Nat.le_of_ble_eq_true rfl⟩).run (fun r_23 hw_23 => ?_)
              obtain rfl : r_23 = 0 := hw_23
              have hPc := hP.sub (ws' := [((h 46), .inr (1, [.ref (h 84), .ref (h 85), .ref (h 86), .ref (h 87), .int 0, .int 0, .int (-1), .int 0, .int (-1), .int (-1), .int 0])), ((h 8), .inr (0, [.ref (h 102), .ref (h 103), .int 0]))]) [6, 7] rfl
              have hDc := hD.sub (ws' := [((h 46), .inr (1, [.ref (h 84), .ref (h 85), .ref (h 86), .ref (h 87), .int 0, .int 0, .int (-1), .int 0, .int (-1), .int (-1), .int 0])), ((h 8), .inr (0, [.ref (h 102), .ref (h 103), .int 0]))]) [6, 7] (by decide) rfl
              have hKc := hK.sub (tys' := []) [] rfl
              have hFc := va_free (wc := [((h 46), .inr (1, [.ref (h 84), .ref (h 85), .ref (h 86), .ref (h 87), .int 0, .int 0, .int (-1), .int 0, .int (-1), .int (-1), .int 0])), ((h 8), .inr (0, [.ref (h 102), .ref (h 103), .int 0]))]) hD hS hA [6, 7] rfl
              refine va_callv (va_runV (As := [.ref (h 1), .ref (h 8), .int 0]) (rest := []) ⟨hx, hb, hml, hown, ht⟩ (k_X1_judge l _ D h cs 0) (cwV 3 ht (zG_V zw_458 zw_459 zw_460 zw_375 zw_461) rfl rfl rfl (by decide +kernel) ⟨Nat.le_of_ble_eq_true rfl, Nat.le_of_ble_eq_true rfl⟩) (zM_V (va_recv hK hP (ci := 1) (q0 := 6) rfl rfl) hPc hKc hDc) rfl rfl hl.1 rfl (lv_room (Nat.le_of_ble_eq_true rfl)) dX11_errors_142 ⟨Nat.le_of_ble_eq_true rfl, Nat.le_of_ble_eq_true rfl⟩) hS (fun q _ h => hFc q h) hFc (fun u_24 t H1 locs ht0 hvm hw_24 hB hz1 hk1 hS => ?_)
              obtain ⟨hP1, hK1, hD1⟩ := hB
              rw [ht0] at hP1
              have hK1 := va_K.moved hvm.symm hK1
              obtain ⟨hP, hD⟩ := va_join (wr := [((h 0), .inr (11, [.ref (h 1), .ref (h 9), .int 0, .int 0, .ref (h 20), .ref (h 37), .int 0, .ref (h 38), .ref (h 42), .ref (h 43), .ref (h 44), .ref (h 45), .ref (h 46), .ref (h 47), .ref (h 48)])), ((h 7), .inl ((cs 0), 4, .inr (.inr (.inr (.inr fn))))), ((h 4), .inl ((cs 4), 100, .inr (.inr (.inr (.inr (fun _ => none)))))), ((h 1), .inr (8, [.ref (h 2), .int 0, .ref (h 3), .ref (h 4), .int 0, .ref (h 5), .int 0, .ref (h 6), .int 0, .ref (h 7), .int 0])), ((h 48), .inr (5, [.ref (h 49), .ref (h 50), .ref (h 88), .ref (h 89), .ref (h 90), .int 0, .int 1, .null, .null, .int 0])), ((h 49), .inl ((cs 13), 2048, .inl (upd zI0 0 1)))]) (w1 := [((h 46), .inr (1, [.ref (h 84), .ref (h 85), .ref (h 86), .ref (h 87), .int 0, .int 0, .int (-1), .int 0, .int (-1), .int (-1), .int 0])), ((h 8), .inr (0, [.ref (h 102), .ref (h 103), .int 0]))]) hP hD [6, 7] [0, 1, 2, 3, 4, 5] rfl rfl (by decide) (by decide) hk1 hFc hP1 hD1
              generalize H1 = H at hP hS ⊢
              have hP : va_P D vwCl [((h 0), .inr (11, [.ref (h 1), .ref (h 9), .int 0, .int 0, .ref (h 20), .ref (h 37), .int 0, .ref (h 38), .ref (h 42), .ref (h 43), .ref (h 44), .ref (h 45), .ref (h 46), .ref (h 47), .ref (h 48)])), ((h 7), .inl ((cs 0), 4, .inr (.inr (.inr (.inr fn))))), ((h 4), .inl ((cs 4), 100, .inr (.inr (.inr (.inr (fun _ => none)))))), ((h 1), .inr (8, [.ref (h 2), .int 0, .ref (h 3), .ref (h 4), .int 0, .ref (h 5), .int 0, .ref (h 6), .int 0, .ref (h 7), .int 0])), ((h 48), .inr (5, [.ref (h 49), .ref (h 50), .ref (h 88), .ref (h 89), .ref (h 90), .int 0, .int 1, .null, .null, .int 0])), ((h 49), .inl ((cs 13), 2048, .inl (upd zI0 0 1))), ((h 46), .inr (1, [.ref (h 84), .ref (h 85), .ref (h 86), .ref (h 87), .int 0, .int 0, .int (-1), .int 0, .int (-1), .int (-1), .int 0])), ((h 8), .inr (0, [.ref (h 102), .ref (h 103), .int 0]))] H := hP
              have hD : va_D A [((h 0), .inr (11, [.ref (h 1), .ref (h 9), .int 0, .int 0, .ref (h 20), .ref (h 37), .int 0, .ref (h 38), .ref (h 42), .ref (h 43), .ref (h 44), .ref (h 45), .ref (h 46), .ref (h 47), .ref (h 48)])), ((h 7), .inl ((cs 0), 4, .inr (.inr (.inr (.inr fn))))), ((h 4), .inl ((cs 4), 100, .inr (.inr (.inr (.inr (fun _ => none)))))), ((h 1), .inr (8, [.ref (h 2), .int 0, .ref (h 3), .ref (h 4), .int 0, .ref (h 5), .int 0, .ref (h 6), .int 0, .ref (h 7), .int 0])), ((h 48), .inr (5, [.ref (h 49), .ref (h 50), .ref (h 88), .ref (h 89), .ref (h 90), .int 0, .int 1, .null, .null, .int 0])), ((h 49), .inl ((cs 13), 2048, .inl (upd zI0 0 1))), ((h 46), .inr (1, [.ref (h 84), .ref (h 85), .ref (h 86), .ref (h 87), .int 0, .int 0, .int (-1), .int 0, .int (-1), .int (-1), .int 0])), ((h 8), .inr (0, [.ref (h 102), .ref (h 103), .int 0]))] := hD
              refine lv_aload_n hx hb dX11_errors_145 rfl (lv_at hl 3 rfl) ?_
              refine va_get (D := D) (ci := 11) (v := .ref (h 46)) (C := RX11) (T := TX11) (N := 15) hx hb ht zinX11 hown hK hP 0 rfl rfl 12 (by decide) (ht _ zw_378) (fun _ h9 => h9) rfl dX11_errors_146 ?_
              refine lv_aload_n hx hb dX11_errors_149 rfl (lv_at hl 3 rfl) ?_
              refine va_get (D := D) (ci := 11) (v := .ref (h 1)) (C := RX11) (T := TX11) (N := 15) hx hb ht zinX11 hown hK hP 0 rfl rfl 0 (by decide) (ht _ zw_353) (fun _ h9 => h9) rfl dX11_errors_150 ?_
              refine va_get (D := D) (ci := 8) (v := .ref (h 7)) (C := RX8) (T := TX8) (N := 11) hx hb ht zinX8 hown hK hP 3 rfl rfl 9 (by decide) (ht _ zw_452) (fun _ h9 => h9) rfl dX11_errors_153 ?_
              refine lv_iload_n hx hb dX11_errors_156 rfl (lv_at hl 0 rfl) ?_
              refine va_aldq hx hb hK hP 1 2 rfl rfl (vp_in_iff.mpr (by decide)) dX11_errors_157 ?_
              refine W.eq (g2 := F0 m 158 ls (.ref (h 8) :: .ref (h 46) :: [])) (by show F0 m _ ls (va_rf (fn 2) :: _) = _; rw [hn _ (by decide)]; rfl) ?_
              refine lv_iconst (v := (-1)) hx hb dX11_errors_158 (by decide) ?_
              refine va_csq (va_runV (As := [.ref (h 8), .int (-1)]) (rest := []) ⟨hx, hb, hml, hown, ht⟩ (k_X1_chainLaw l D h cs (-1)) (cwV 2 ht (zG_V zw_448 zw_449 zw_450 zw_375 zw_451) rfl rfl rfl (by decide +kernel) ⟨Nat.le_of_ble_eq_true rfl, Nat.le_of_ble_eq_true rfl⟩) (zR_V (va_recv hK hP (ci := 1) (q0 := 6) rfl rfl) (hP.sub (ws' := [((h 46), .inr (1, [.ref (h 84), .ref (h 85), .ref (h 86), .ref (h 87), .int 0, .int 0, .int (-1), .int 0, .int (-1), .int (-1), .int 0])), ((h 8), .inr (0, [.ref (h 102), .ref (h 103), .int 0]))]) [6, 7] rfl) (hK.sub (tys' := []) [] rfl)) rfl rfl hl.1 rfl (lv_room (Nat.le_of_ble_eq_true rfl)) dX11_errors_159 ⟨Nat.le_of_ble_eq_true rfl, Nat.le_of_ble_eq_true rfl⟩).run (fun r_26 hw_26 => ?_)
              obtain rfl := hw_26
              refine W.eq (g2 := F0 m 162 ls (.null :: [])) rfl ?_
              refine lv_astore_nN (lv' := [(3, .null), (2, .int 2), (1, .int 0), (0, .ref (h 0))]) hx hb dX11_errors_162 rfl hl (by decide) rfl (fun ls hl => ?_)
              refine lv_iload_n hx hb dX11_errors_163 rfl (lv_at hl 2 rfl) ?_
              refine lv_aload_nN hx hb dX11_errors_164 rfl (lv_at hl 0 rfl) ?_
              refine lv_ifnullN (tgt := 192) hx hb dX11_errors_165 (by decide) ?_
              refine lv_iconst (v := 0) hx hb dX11_errors_192 (by decide) ?_
              refine lv_iadd hx hb dX11_errors_193 ?_
              refine lv_topi (fun x_27 e_27 => ?_)
              obtain rfl : x_27 = 0 := e_27.trans (by decide)
              refine lv_istore_n (lv' := [(1, .int 0), (3, .null), (2, .int 2), (0, .ref (h 0))]) hx hb dX11_errors_194 rfl hl (by decide) rfl (fun ls hl => ?_)
              refine lv_iinc (v := 3) (lv' := [(2, .int 3), (1, .int 0), (3, .null), (0, .ref (h 0))]) hx hb dX11_errors_195 hl (k := 2) rfl (by decide) (by decide) rfl (fun ls hl => ?_)
              refine lv_goto (tgt := 113) hx hb dX11_errors_198 (by decide) ?_
              refine lv_iload_n hx hb dX11_errors_113 rfl (lv_at hl 0 rfl) ?_
              refine lv_iconst (v := 4) hx hb dX11_errors_114 (by decide) ?_
              refine lv_icmp_ge (tgt := 201) hx hb dX11_errors_115 (by decide) (fun c_29 => ?_) (fun c_29 => ?_)
              · skip
                exact absurd c_29 (by decide)
              · skip
                refine lv_aload_n hx hb dX11_errors_118 rfl (lv_at hl 3 rfl) ?_
                refine va_get (D := D) (ci := 11) (v := .ref (h 46)) (C := RX11) (T := TX11) (N := 15) hx hb ht zinX11 hown hK hP 0 rfl rfl 12 (by decide) (ht _ zw_378) (fun _ h9 => h9) rfl dX11_errors_119 ?_
                refine lv_aload_n hx hb dX11_errors_122 rfl (lv_at hl 3 rfl) ?_
                refine va_get (D := D) (ci := 11) (v := .ref (h 1)) (C := RX11) (T := TX11) (N := 15) hx hb ht zinX11 hown hK hP 0 rfl rfl 0 (by decide) (ht _ zw_353) (fun _ h9 => h9) rfl dX11_errors_123 ?_
                refine lv_aload_n hx hb dX11_errors_126 rfl (lv_at hl 3 rfl) ?_
                refine va_get (D := D) (ci := 11) (v := .ref (h 1)) (C := RX11) (T := TX11) (N := 15) hx hb ht zinX11 hown hK hP 0 rfl rfl 0 (by decide) (ht _ zw_353) (fun _ h9 => h9) rfl dX11_errors_127 ?_
                refine va_get (D := D) (ci := 8) (v := .ref (h 7)) (C := RX8) (T := TX8) (N := 11) hx hb ht zinX8 hown hK hP 3 rfl rfl 9 (by decide) (ht _ zw_452) (fun _ h9 => h9) rfl dX11_errors_130 ?_
                refine lv_iload_n hx hb dX11_errors_133 rfl (lv_at hl 0 rfl) ?_
                refine va_aldq hx hb hK hP 1 2 rfl rfl (vp_in_iff.mpr (by decide)) dX11_errors_134 ?_
                refine W.eq (g2 := F0 m 135 ls (.ref (h 8) :: .ref (h 1) :: .ref (h 46) :: [])) (by show F0 m _ ls (va_rf (fn 3) :: _) = _; rw [hn _ (by decide)]; rfl) ?_
                refine lv_aload_n hx hb dX11_errors_135 rfl (lv_at hl 3 rfl) ?_
                refine va_get (D := D) (ci := 11) (v := .ref (h 1)) (C := RX11) (T := TX11) (N := 15) hx hb ht zinX11 hown hK hP 0 rfl rfl 0 (by decide) (ht _ zw_353) (fun _ h9 => h9) rfl dX11_errors_136 ?_
                refine vp_callSi (va_runV (As := []) (rest := [.ref (h 8), .ref (h 1), .ref (h 46)]) ⟨hx, hb, hml, hown, ht⟩ (k_X8_allOpen l D h cs) (cwV 0 ht (zG_V zw_433 zw_434 zw_435 zw_334 zw_436) rfl rfl rfl (by decide +kernel) ⟨Nat.le_of_ble_eq_true rfl, Nat.le_of_ble_eq_true rfl⟩) (zR_V (va_recv hK hP (ci := 8) (q0 := 3) rfl rfl) (hP.sub (ws' := [((h 1), .inr (8, [.ref (h 2), .int 0, .ref (h 3), .ref (h 4), .int 0, .ref (h 5), .int 0, .ref (h 6), .int 0, .ref (h 7), .int 0]))]) [3] rfl) (hK.sub (tys' := []) [] rfl)) rfl rfl hl.1 rfl (lv_room (Nat.le_of_ble_eq_true rfl)) dX11_errors_139 ⟨Nat.le_of_ble_eq_true rfl, Nat.le_of_ble_eq_true rfl⟩).run (fun r_31 hw_31 => ?_)
                obtain rfl : r_31 = 0 := hw_31
                have hPc := hP.sub (ws' := [((h 46), .inr (1, [.ref (h 84), .ref (h 85), .ref (h 86), .ref (h 87), .int 0, .int 0, .int (-1), .int 0, .int (-1), .int (-1), .int 0])), ((h 8), .inr (0, [.ref (h 102), .ref (h 103), .int 0]))]) [6, 7] rfl
                have hDc := hD.sub (ws' := [((h 46), .inr (1, [.ref (h 84), .ref (h 85), .ref (h 86), .ref (h 87), .int 0, .int 0, .int (-1), .int 0, .int (-1), .int (-1), .int 0])), ((h 8), .inr (0, [.ref (h 102), .ref (h 103), .int 0]))]) [6, 7] (by decide) rfl
                have hKc := hK.sub (tys' := []) [] rfl
                have hFc := va_free (wc := [((h 46), .inr (1, [.ref (h 84), .ref (h 85), .ref (h 86), .ref (h 87), .int 0, .int 0, .int (-1), .int 0, .int (-1), .int (-1), .int 0])), ((h 8), .inr (0, [.ref (h 102), .ref (h 103), .int 0]))]) hD hS hA [6, 7] rfl
                refine va_callv (va_runV (As := [.ref (h 1), .ref (h 8), .int 0]) (rest := []) ⟨hx, hb, hml, hown, ht⟩ (k_X1_judge l _ D h cs 0) (cwV 3 ht (zG_V zw_458 zw_459 zw_460 zw_375 zw_461) rfl rfl rfl (by decide +kernel) ⟨Nat.le_of_ble_eq_true rfl, Nat.le_of_ble_eq_true rfl⟩) (zM_V (va_recv hK hP (ci := 1) (q0 := 6) rfl rfl) hPc hKc hDc) rfl rfl hl.1 rfl (lv_room (Nat.le_of_ble_eq_true rfl)) dX11_errors_142 ⟨Nat.le_of_ble_eq_true rfl, Nat.le_of_ble_eq_true rfl⟩) hS (fun q _ h => hFc q h) hFc (fun u_32 t H1 locs ht0 hvm hw_32 hB hz1 hk1 hS => ?_)
                obtain ⟨hP1, hK1, hD1⟩ := hB
                rw [ht0] at hP1
                have hK1 := va_K.moved hvm.symm hK1
                obtain ⟨hP, hD⟩ := va_join (wr := [((h 0), .inr (11, [.ref (h 1), .ref (h 9), .int 0, .int 0, .ref (h 20), .ref (h 37), .int 0, .ref (h 38), .ref (h 42), .ref (h 43), .ref (h 44), .ref (h 45), .ref (h 46), .ref (h 47), .ref (h 48)])), ((h 7), .inl ((cs 0), 4, .inr (.inr (.inr (.inr fn))))), ((h 4), .inl ((cs 4), 100, .inr (.inr (.inr (.inr (fun _ => none)))))), ((h 1), .inr (8, [.ref (h 2), .int 0, .ref (h 3), .ref (h 4), .int 0, .ref (h 5), .int 0, .ref (h 6), .int 0, .ref (h 7), .int 0])), ((h 48), .inr (5, [.ref (h 49), .ref (h 50), .ref (h 88), .ref (h 89), .ref (h 90), .int 0, .int 1, .null, .null, .int 0])), ((h 49), .inl ((cs 13), 2048, .inl (upd zI0 0 1)))]) (w1 := [((h 46), .inr (1, [.ref (h 84), .ref (h 85), .ref (h 86), .ref (h 87), .int 0, .int 0, .int (-1), .int 0, .int (-1), .int (-1), .int 0])), ((h 8), .inr (0, [.ref (h 102), .ref (h 103), .int 0]))]) hP hD [6, 7] [0, 1, 2, 3, 4, 5] rfl rfl (by decide) (by decide) hk1 hFc hP1 hD1
                generalize H1 = H at hP hS ⊢
                have hP : va_P D vwCl [((h 0), .inr (11, [.ref (h 1), .ref (h 9), .int 0, .int 0, .ref (h 20), .ref (h 37), .int 0, .ref (h 38), .ref (h 42), .ref (h 43), .ref (h 44), .ref (h 45), .ref (h 46), .ref (h 47), .ref (h 48)])), ((h 7), .inl ((cs 0), 4, .inr (.inr (.inr (.inr fn))))), ((h 4), .inl ((cs 4), 100, .inr (.inr (.inr (.inr (fun _ => none)))))), ((h 1), .inr (8, [.ref (h 2), .int 0, .ref (h 3), .ref (h 4), .int 0, .ref (h 5), .int 0, .ref (h 6), .int 0, .ref (h 7), .int 0])), ((h 48), .inr (5, [.ref (h 49), .ref (h 50), .ref (h 88), .ref (h 89), .ref (h 90), .int 0, .int 1, .null, .null, .int 0])), ((h 49), .inl ((cs 13), 2048, .inl (upd zI0 0 1))), ((h 46), .inr (1, [.ref (h 84), .ref (h 85), .ref (h 86), .ref (h 87), .int 0, .int 0, .int (-1), .int 0, .int (-1), .int (-1), .int 0])), ((h 8), .inr (0, [.ref (h 102), .ref (h 103), .int 0]))] H := hP
                have hD : va_D A [((h 0), .inr (11, [.ref (h 1), .ref (h 9), .int 0, .int 0, .ref (h 20), .ref (h 37), .int 0, .ref (h 38), .ref (h 42), .ref (h 43), .ref (h 44), .ref (h 45), .ref (h 46), .ref (h 47), .ref (h 48)])), ((h 7), .inl ((cs 0), 4, .inr (.inr (.inr (.inr fn))))), ((h 4), .inl ((cs 4), 100, .inr (.inr (.inr (.inr (fun _ => none)))))), ((h 1), .inr (8, [.ref (h 2), .int 0, .ref (h 3), .ref (h 4), .int 0, .ref (h 5), .int 0, .ref (h 6), .int 0, .ref (h 7), .int 0])), ((h 48), .inr (5, [.ref (h 49), .ref (h 50), .ref (h 88), .ref (h 89), .ref (h 90), .int 0, .int 1, .null, .null, .int 0])), ((h 49), .inl ((cs 13), 2048, .inl (upd zI0 0 1))), ((h 46), .inr (1, [.ref (h 84), .ref (h 85), .ref (h 86), .ref (h 87), .int 0, .int 0, .int (-1), .int 0, .int (-1), .int (-1), .int 0])), ((h 8), .inr (0, [.ref (h 102), .ref (h 103), .int 0]))] := hD
                refine lv_aload_n hx hb dX11_errors_145 rfl (lv_at hl 3 rfl) ?_
                refine va_get (D := D) (ci := 11) (v := .ref (h 46)) (C := RX11) (T := TX11) (N := 15) hx hb ht zinX11 hown hK hP 0 rfl rfl 12 (by decide) (ht _ zw_378) (fun _ h9 => h9) rfl dX11_errors_146 ?_
                refine lv_aload_n hx hb dX11_errors_149 rfl (lv_at hl 3 rfl) ?_
                refine va_get (D := D) (ci := 11) (v := .ref (h 1)) (C := RX11) (T := TX11) (N := 15) hx hb ht zinX11 hown hK hP 0 rfl rfl 0 (by decide) (ht _ zw_353) (fun _ h9 => h9) rfl dX11_errors_150 ?_
                refine va_get (D := D) (ci := 8) (v := .ref (h 7)) (C := RX8) (T := TX8) (N := 11) hx hb ht zinX8 hown hK hP 3 rfl rfl 9 (by decide) (ht _ zw_452) (fun _ h9 => h9) rfl dX11_errors_153 ?_
                refine lv_iload_n hx hb dX11_errors_156 rfl (lv_at hl 0 rfl) ?_
                refine va_aldq hx hb hK hP 1 2 rfl rfl (vp_in_iff.mpr (by decide)) dX11_errors_157 ?_
                refine W.eq (g2 := F0 m 158 ls (.ref (h 8) :: .ref (h 46) :: [])) (by show F0 m _ ls (va_rf (fn 3) :: _) = _; rw [hn _ (by decide)]; rfl) ?_
                refine lv_iconst (v := (-1)) hx hb dX11_errors_158 (by decide) ?_
                refine va_csq (va_runV (As := [.ref (h 8), .int (-1)]) (rest := []) ⟨hx, hb, hml, hown, ht⟩ (k_X1_chainLaw l D h cs (-1)) (cwV 2 ht (zG_V zw_448 zw_449 zw_450 zw_375 zw_451) rfl rfl rfl (by decide +kernel) ⟨Nat.le_of_ble_eq_true rfl, Nat.le_of_ble_eq_true rfl⟩) (zR_V (va_recv hK hP (ci := 1) (q0 := 6) rfl rfl) (hP.sub (ws' := [((h 46), .inr (1, [.ref (h 84), .ref (h 85), .ref (h 86), .ref (h 87), .int 0, .int 0, .int (-1), .int 0, .int (-1), .int (-1), .int 0])), ((h 8), .inr (0, [.ref (h 102), .ref (h 103), .int 0]))]) [6, 7] rfl) (hK.sub (tys' := []) [] rfl)) rfl rfl hl.1 rfl (lv_room (Nat.le_of_ble_eq_true rfl)) dX11_errors_159 ⟨Nat.le_of_ble_eq_true rfl, Nat.le_of_ble_eq_true rfl⟩).run (fun r_34 hw_34 => ?_)
                obtain rfl := hw_34
                refine W.eq (g2 := F0 m 162 ls (.null :: [])) rfl ?_
                refine lv_astore_nN (lv' := [(3, .null), (2, .int 3), (1, .int 0), (0, .ref (h 0))]) hx hb dX11_errors_162 rfl hl (by decide) rfl (fun ls hl => ?_)
                refine lv_iload_n hx hb dX11_errors_163 rfl (lv_at hl 2 rfl) ?_
                refine lv_aload_nN hx hb dX11_errors_164 rfl (lv_at hl 0 rfl) ?_
                refine lv_ifnullN (tgt := 192) hx hb dX11_errors_165 (by decide) ?_
                refine lv_iconst (v := 0) hx hb dX11_errors_192 (by decide) ?_
                refine lv_iadd hx hb dX11_errors_193 ?_
                refine lv_topi (fun x_35 e_35 => ?_)
                obtain rfl : x_35 = 0 := e_35.trans (by decide)
                refine lv_istore_n (lv' := [(1, .int 0), (3, .null), (2, .int 3), (0, .ref (h 0))]) hx hb dX11_errors_194 rfl hl (by decide) rfl (fun ls hl => ?_)
                refine lv_iinc (v := 4) (lv' := [(2, .int 4), (1, .int 0), (3, .null), (0, .ref (h 0))]) hx hb dX11_errors_195 hl (k := 2) rfl (by decide) (by decide) rfl (fun ls hl => ?_)
                refine lv_goto (tgt := 113) hx hb dX11_errors_198 (by decide) ?_
                refine lv_iload_n hx hb dX11_errors_113 rfl (lv_at hl 0 rfl) ?_
                refine lv_iconst (v := 4) hx hb dX11_errors_114 (by decide) ?_
                refine lv_icmp_ge (tgt := 201) hx hb dX11_errors_115 (by decide) (fun c_37 => ?_) (fun c_37 => ?_)
                · skip
                  refine lv_iload_n hx hb dX11_errors_201 rfl (lv_at hl 1 rfl) ?_
                  have hP9 := hP.sub (ws' := []) [] rfl
                  have hD9 := hD.sub (ws' := []) [] (by decide) rfl
                  have hK9 := hK.sub (tys' := []) [] rfl
                  refine W.widen (k := 0) (n := 0) (Nat.le_of_ble_eq_true rfl) (Nat.le_of_ble_eq_true rfl) ?_
                  exact W.iret (v := 0) hx hb hr (fun t ht0 hW => ⟨⟨0, (), rfl, rfl, (zE_of hP9 hK9 hD9 ht0 hW)⟩, hS.F ht0⟩) hS.2.2 dX11_errors_202
                · skip
                  exact absurd c_37 (by decide)
      · skip
        simp only [fa_lt, fa_le, fa_eq, Int32.reduceToInt] at c_3
        refine lv_aload_n hx hb dX11_errors_21 rfl (lv_at hl 2 rfl) ?_
        refine va_get (D := D) (ci := 11) (v := .ref (h 1)) (C := RX11) (T := TX11) (N := 15) hx hb ht zinX11 hown hK hP 0 rfl rfl 0 (by decide) (ht _ zw_353) (fun _ h9 => h9) rfl dX11_errors_22 ?_
        refine va_get (D := D) (ci := 8) (v := .ref (h 4)) (C := RX8) (T := TX8) (N := 11) hx hb ht zinX8 hown hK hP 5 rfl rfl 3 (by decide) (ht _ zw_470) (fun _ h9 => h9) rfl dX11_errors_25 ?_
        refine lv_iload_n hx hb dX11_errors_28 rfl (lv_at hl 0 rfl) ?_
        refine va_aldq hx hb hK hP 6 0 rfl rfl (vp_in_iff.mpr ⟨by omega, by omega⟩) dX11_errors_29 ?_
        refine W.eq (g2 := F0 m 30 ls (.null :: [])) rfl ?_
        refine lv_astore_nN (lv' := [(3, .null), (2, .int x2), (1, .int 0), (0, .ref (h 0))]) hx hb dX11_errors_30 rfl hl (by decide) rfl (fun ls hl => ?_)
        refine lv_aload_nN hx hb dX11_errors_31 rfl (lv_at hl 0 rfl) ?_
        refine lv_ifnullN (tgt := 94) hx hb dX11_errors_32 (by decide) ?_
        obtain ⟨x_39, e_39⟩ : ∃ y : Int32, y = x2 + 1 := ⟨_, rfl⟩
        refine lv_iinc (v := x_39) (lv' := [(2, .int x_39), (3, .null), (1, .int 0), (0, .ref (h 0))]) hx hb dX11_errors_94 hl (k := 1) rfl (by rw [e_39]; rfl) (by decide) rfl (fun ls hl => ?_)
        refine lv_goto (tgt := 15) hx hb dX11_errors_97 (by decide) ?_
        have hinc_40 : x_39.toInt = x2.toInt + 1 := by rw [e_39]; exact zinc (by omega)
        exact ih_2 x_39 (by omega) (by omega) (by omega)   ls (lv_sub hl [0, 2, 3] rfl)
  refine hloop_2 101 0 (by decide) (by decide) (by decide)   ls (lv_sub hl [0, 1, 2] rfl)
