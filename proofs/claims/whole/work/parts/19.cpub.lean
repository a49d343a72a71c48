abbrev cX11_filled : ByteArray := prog_1_method_57_code
def yX11_filled : MethodName := ⟨RX11, "filled", "(I)LChainwork$Term;"⟩
theorem dX11_filled_0 : decode cX11_filled 0 = .ok (.aload_n 0, 1) := by decide +kernel
theorem dX11_filled_1 : decode cX11_filled 1 = .ok (.getfield 10, 3) := by decide +kernel
theorem zw_391 : Cond.fieldLink RX11 120 RX8 "registers" "[LChainwork$Term;" ∈ zT := zT_of 81 (by decide +kernel) (by decide +kernel)
theorem dX11_filled_4 : decode cX11_filled 4 = .ok (.getfield 120, 3) := by decide +kernel
theorem dX11_filled_7 : decode cX11_filled 7 = .ok (.iload_n 1, 1) := by decide +kernel
theorem dX11_filled_8 : decode cX11_filled 8 = .ok (.aaload, 1) := by decide +kernel
theorem dX11_filled_9 : decode cX11_filled 9 = .ok (.astore_n 2, 1) := by decide +kernel
theorem dX11_filled_10 : decode cX11_filled 10 = .ok (.aload_n 2, 1) := by decide +kernel
theorem dX11_filled_11 : decode cX11_filled 11 = .ok (.ifnonnull 14, 3) := by decide +kernel
theorem dX11_filled_14 : decode cX11_filled 14 = .ok (.new 91, 3) := by decide +kernel
theorem dX11_filled_17 : decode cX11_filled 17 = .ok (.dup, 1) := by decide +kernel
theorem dX11_filled_18 : decode cX11_filled 18 = .ok (.ldc_w 508, 3) := by decide +kernel
theorem dX11_filled_21 : decode cX11_filled 21 = .ok (.invokespecial 95, 3) := by decide +kernel
theorem dX11_filled_24 : decode cX11_filled 24 = .ok (.athrow, 1) := by decide +kernel
theorem zw_392 : Cond.classLink RX11 91 "java/lang/IllegalStateException" ∈ zT := zT_of 833 (by decide +kernel) (by decide +kernel)
theorem zw_393 : Cond.initialized "java/lang/IllegalStateException" ∈ zT := zT_of 15 (by decide +kernel) (by decide +kernel)
abbrev cX8_lawNamed : ByteArray := prog_10_method_4_code
def yX8_lawNamed : MethodName := ⟨RX8, "lawNamed", "(I)LChainwork$Law;"⟩
theorem dX8_lawNamed_0 : decode cX8_lawNamed 0 = .ok (.iload_n 1, 1) := by decide +kernel
theorem dX8_lawNamed_1 : decode cX8_lawNamed 1 = .ok (.ifCond .lt 18, 3) := by decide +kernel
theorem dX8_lawNamed_19 : decode cX8_lawNamed 19 = .ok (.aconst_null, 1) := by decide +kernel
theorem dX8_lawNamed_20 : decode cX8_lawNamed 20 = .ok (.areturn, 1) := by decide +kernel
theorem dX8_lawNamed_4 : decode cX8_lawNamed 4 = .ok (.iload_n 1, 1) := by decide +kernel
theorem dX8_lawNamed_5 : decode cX8_lawNamed 5 = .ok (.bipush 100, 2) := by decide +kernel
theorem dX8_lawNamed_7 : decode cX8_lawNamed 7 = .ok (.if_icmp .ge 12, 3) := by decide +kernel
theorem dX8_lawNamed_10 : decode cX8_lawNamed 10 = .ok (.aload_n 0, 1) := by decide +kernel
theorem dX8_lawNamed_11 : decode cX8_lawNamed 11 = .ok (.getfield 29, 3) := by decide +kernel
theorem dX8_lawNamed_14 : decode cX8_lawNamed 14 = .ok (.iload_n 1, 1) := by decide +kernel
theorem dX8_lawNamed_15 : decode cX8_lawNamed 15 = .ok (.aaload, 1) := by decide +kernel
theorem dX8_lawNamed_16 : decode cX8_lawNamed 16 = .ok (.goto 4, 3) := by decide +kernel
abbrev cX8_equivalenceNamed : ByteArray := prog_10_method_6_code
def yX8_equivalenceNamed : MethodName := ⟨RX8, "equivalenceNamed", "(I)LChainwork$Equivalence;"⟩
theorem dX8_equivalenceNamed_0 : decode cX8_equivalenceNamed 0 = .ok (.iconst 0, 1) := by decide +kernel
theorem dX8_equivalenceNamed_1 : decode cX8_equivalenceNamed 1 = .ok (.istore_n 2, 1) := by decide +kernel
theorem dX8_equivalenceNamed_2 : decode cX8_equivalenceNamed 2 = .ok (.iload_n 2, 1) := by decide +kernel
theorem dX8_equivalenceNamed_3 : decode cX8_equivalenceNamed 3 = .ok (.aload_n 0, 1) := by decide +kernel
theorem dX8_equivalenceNamed_4 : decode cX8_equivalenceNamed 4 = .ok (.getfield 42, 3) := by decide +kernel
theorem dX8_equivalenceNamed_7 : decode cX8_equivalenceNamed 7 = .ok (.if_icmp .ge 29, 3) := by decide +kernel
theorem dX8_equivalenceNamed_36 : decode cX8_equivalenceNamed 36 = .ok (.aconst_null, 1) := by decide +kernel
theorem dX8_equivalenceNamed_37 : decode cX8_equivalenceNamed 37 = .ok (.areturn, 1) := by decide +kernel
abbrev cX8_allOpen : ByteArray := prog_10_method_12_code
def yX8_allOpen : MethodName := ⟨RX8, "allOpen", "()I"⟩
theorem dX8_allOpen_0 : decode cX8_allOpen 0 = .ok (.iconst 1, 1) := by decide +kernel
theorem dX8_allOpen_1 : decode cX8_allOpen 1 = .ok (.aload_n 0, 1) := by decide +kernel
theorem dX8_allOpen_2 : decode cX8_allOpen 2 = .ok (.getfield 48, 3) := by decide +kernel
theorem dX8_allOpen_5 : decode cX8_allOpen 5 = .ok (.ishl, 1) := by decide +kernel
theorem dX8_allOpen_6 : decode cX8_allOpen 6 = .ok (.iconst 1, 1) := by decide +kernel
theorem dX8_allOpen_7 : decode cX8_allOpen 7 = .ok (.isub, 1) := by decide +kernel
theorem dX8_allOpen_8 : decode cX8_allOpen 8 = .ok (.ireturn, 1) := by decide +kernel
abbrev cX8_lawOrAssumption : ByteArray := prog_10_method_5_code
def yX8_lawOrAssumption : MethodName := ⟨RX8, "lawOrAssumption", "(II)LChainwork$Law;"⟩
theorem dX8_lawOrAssumption_0 : decode cX8_lawOrAssumption 0 = .ok (.iload_n 1, 1) := by decide +kernel
theorem dX8_lawOrAssumption_1 : decode cX8_lawOrAssumption 1 = .ok (.bipush 100, 2) := by decide +kernel
theorem dX8_lawOrAssumption_3 : decode cX8_lawOrAssumption 3 = .ok (.isub, 1) := by decide +kernel
theorem dX8_lawOrAssumption_4 : decode cX8_lawOrAssumption 4 = .ok (.istore_n 3, 1) := by decide +kernel
theorem dX8_lawOrAssumption_5 : decode cX8_lawOrAssumption 5 = .ok (.iload_n 3, 1) := by decide +kernel
theorem dX8_lawOrAssumption_6 : decode cX8_lawOrAssumption 6 = .ok (.ifCond .lt 11, 3) := by decide +kernel
theorem dX8_lawOrAssumption_17 : decode cX8_lawOrAssumption 17 = .ok (.aload_n 0, 1) := by decide +kernel
theorem dX8_lawOrAssumption_18 : decode cX8_lawOrAssumption 18 = .ok (.iload_n 1, 1) := by decide +kernel
theorem zw_394 : Cond.methodLink RX8 61 yX8_lawNamed ∈ zT := zT_of 612 (by decide +kernel) (by decide +kernel)
theorem zw_395 : Cond.instanceMethod yX8_lawNamed ∈ zT := zT_of 613 (by decide +kernel) (by decide +kernel)
theorem zw_396 : Cond.selects RX8 yX8_lawNamed yX8_lawNamed ∈ zT := zT_of 614 (by decide +kernel) (by decide +kernel)
theorem zw_397 : Cond.code yX8_lawNamed cX8_lawNamed 2 (some (.object "Chainwork$Law")) ∈ zT := zT_of 615 (by decide +kernel) (by decide +kernel)
theorem dX8_lawOrAssumption_19 : decode cX8_lawOrAssumption 19 = .ok (.invokevirtual 61, 3) := by decide +kernel
theorem dX8_lawOrAssumption_22 : decode cX8_lawOrAssumption 22 = .ok (.areturn, 1) := by decide +kernel
theorem dX8_lawOrAssumption_9 : decode cX8_lawOrAssumption 9 = .ok (.iload_n 3, 1) := by decide +kernel
theorem dX8_lawOrAssumption_10 : decode cX8_lawOrAssumption 10 = .ok (.aload_n 0, 1) := by decide +kernel
theorem dX8_lawOrAssumption_11 : decode cX8_lawOrAssumption 11 = .ok (.getfield 48, 3) := by decide +kernel
theorem dX8_lawOrAssumption_14 : decode cX8_lawOrAssumption 14 = .ok (.if_icmp .lt 9, 3) := by decide +kernel
abbrev cX11_lawThere : ByteArray := prog_1_method_58_code
def yX11_lawThere : MethodName := ⟨RX11, "lawThere", "(I)LChainwork$Law;"⟩
theorem dX11_lawThere_0 : decode cX11_lawThere 0 = .ok (.aload_n 0, 1) := by decide +kernel
theorem dX11_lawThere_1 : decode cX11_lawThere 1 = .ok (.getfield 10, 3) := by decide +kernel
theorem dX11_lawThere_4 : decode cX11_lawThere 4 = .ok (.iload_n 1, 1) := by decide +kernel
theorem zw_398 : Cond.methodLink RX11 277 yX8_lawNamed ∈ zT := zT_of 1007 (by decide +kernel) (by decide +kernel)
theorem dX11_lawThere_5 : decode cX11_lawThere 5 = .ok (.invokevirtual 277, 3) := by decide +kernel
theorem dX11_lawThere_8 : decode cX11_lawThere 8 = .ok (.astore_n 2, 1) := by decide +kernel
theorem dX11_lawThere_9 : decode cX11_lawThere 9 = .ok (.aload_n 2, 1) := by decide +kernel
theorem dX11_lawThere_10 : decode cX11_lawThere 10 = .ok (.ifnonnull 14, 3) := by decide +kernel
theorem dX11_lawThere_13 : decode cX11_lawThere 13 = .ok (.new 301, 3) := by decide +kernel
theorem dX11_lawThere_16 : decode cX11_lawThere 16 = .ok (.dup, 1) := by decide +kernel
theorem dX11_lawThere_17 : decode cX11_lawThere 17 = .ok (.ldc_w 510, 3) := by decide +kernel
theorem dX11_lawThere_20 : decode cX11_lawThere 20 = .ok (.invokespecial 305, 3) := by decide +kernel
theorem dX11_lawThere_23 : decode cX11_lawThere 23 = .ok (.athrow, 1) := by decide +kernel
theorem zw_399 : Cond.classLink RX11 301 "java/util/NoSuchElementException" ∈ zT := zT_of 1008 (by decide +kernel) (by decide +kernel)
theorem zw_400 : Cond.initialized "java/util/NoSuchElementException" ∈ zT := zT_of 21 (by decide +kernel) (by decide +kernel)
abbrev cX11_latestAssumption : ByteArray := prog_1_method_59_code
def yX11_latestAssumption : MethodName := ⟨RX11, "latestAssumption", "()LChainwork$Law;"⟩
theorem dX11_latestAssumption_0 : decode cX11_latestAssumption 0 = .ok (.aload_n 0, 1) := by decide +kernel
theorem dX11_latestAssumption_1 : decode cX11_latestAssumption 1 = .ok (.getfield 10, 3) := by decide +kernel
theorem zw_401 : Cond.fieldLink RX11 248 RX8 "assumptionCount" "I" ∈ zT := zT_of 102 (by decide +kernel) (by decide +kernel)
theorem dX11_latestAssumption_4 : decode cX11_latestAssumption 4 = .ok (.getfield 248, 3) := by decide +kernel
theorem dX11_latestAssumption_7 : decode cX11_latestAssumption 7 = .ok (.ifCond .ne 14, 3) := by decide +kernel
theorem dX11_latestAssumption_10 : decode cX11_latestAssumption 10 = .ok (.new 301, 3) := by decide +kernel
theorem dX11_latestAssumption_13 : decode cX11_latestAssumption 13 = .ok (.dup, 1) := by decide +kernel
theorem dX11_latestAssumption_14 : decode cX11_latestAssumption 14 = .ok (.ldc_w 512, 3) := by decide +kernel
theorem dX11_latestAssumption_17 : decode cX11_latestAssumption 17 = .ok (.invokespecial 305, 3) := by decide +kernel
theorem dX11_latestAssumption_20 : decode cX11_latestAssumption 20 = .ok (.athrow, 1) := by decide +kernel
abbrev cX11_part : ByteArray := prog_1_method_6_code
def yX11_part : MethodName := ⟨RX11, "part", "(III)I"⟩
theorem dX11_part_0 : decode cX11_part 0 = .ok (.iload_n 1, 1) := by decide +kernel
theorem dX11_part_1 : decode cX11_part 1 = .ok (.bipush 10, 2) := by decide +kernel
theorem zw_402 : Cond.methodLink RX11 117 yX11_checkIndex ∈ zT := zT_of 891 (by decide +kernel) (by decide +kernel)
theorem zw_403 : Cond.static yX11_checkIndex ∈ zT := zT_of 892 (by decide +kernel) (by decide +kernel)
theorem zw_404 : Cond.initialized RX11 ∈ zT := zT_of 1 (by decide +kernel) (by decide +kernel)
theorem zw_405 : Cond.code yX11_checkIndex cX11_checkIndex 2 none ∈ zT := zT_of 893 (by decide +kernel) (by decide +kernel)
theorem dX11_part_3 : decode cX11_part 3 = .ok (.invokestatic 117, 3) := by decide +kernel
theorem dX11_part_6 : decode cX11_part 6 = .ok (.iload_n 3, 1) := by decide +kernel
theorem dX11_part_7 : decode cX11_part 7 = .ok (.bipush 10, 2) := by decide +kernel
theorem dX11_part_9 : decode cX11_part 9 = .ok (.invokestatic 117, 3) := by decide +kernel
theorem dX11_part_12 : decode cX11_part 12 = .ok (.aload_n 0, 1) := by decide +kernel
theorem dX11_part_13 : decode cX11_part 13 = .ok (.iload_n 1, 1) := by decide +kernel
theorem zw_406 : Cond.methodLink RX11 135 yX11_filled ∈ zT := zT_of 942 (by decide +kernel) (by decide +kernel)
theorem zw_407 : Cond.instanceMethod yX11_filled ∈ zT := zT_of 944 (by decide +kernel) (by decide +kernel)
theorem zw_408 : Cond.selects RX11 yX11_filled yX11_filled ∈ zT := zT_ofS 20 (by decide +kernel) (by decide +kernel)
theorem zw_409 : Cond.code yX11_filled cX11_filled 3 (some (.object "Chainwork$Term")) ∈ zT := zT_of 945 (by decide +kernel) (by decide +kernel)
theorem dX11_part_14 : decode cX11_part 14 = .ok (.invokevirtual 135, 3) := by decide +kernel
abbrev cX11_law : ByteArray := prog_1_method_7_code
def yX11_law : MethodName := ⟨RX11, "law", "(IIII)I"⟩
theorem dX11_law_0 : decode cX11_law 0 = .ok (.iload_n 1, 1) := by decide +kernel
theorem dX11_law_1 : decode cX11_law 1 = .ok (.bipush 99, 2) := by decide +kernel
theorem zw_410 : Cond.methodLink RX11 84 yX11_checkNumber ∈ zT := zT_of 761 (by decide +kernel) (by decide +kernel)
theorem zw_411 : Cond.static yX11_checkNumber ∈ zT := zT_of 762 (by decide +kernel) (by decide +kernel)
theorem zw_412 : Cond.code yX11_checkNumber cX11_checkNumber 2 none ∈ zT := zT_of 763 (by decide +kernel) (by decide +kernel)
theorem dX11_law_3 : decode cX11_law 3 = .ok (.invokestatic 84, 3) := by decide +kernel
theorem dX11_law_6 : decode cX11_law 6 = .ok (.iload_n 3, 1) := by decide +kernel
theorem dX11_law_7 : decode cX11_law 7 = .ok (.iconst 1, 1) := by decide +kernel
theorem dX11_law_8 : decode cX11_law 8 = .ok (.invokestatic 84, 3) := by decide +kernel
theorem dX11_law_11 : decode cX11_law 11 = .ok (.iload_n 2, 1) := by decide +kernel
theorem dX11_law_12 : decode cX11_law 12 = .ok (.bipush 10, 2) := by decide +kernel
theorem dX11_law_14 : decode cX11_law 14 = .ok (.invokestatic 117, 3) := by decide +kernel
theorem dX11_law_17 : decode cX11_law 17 = .ok (.iload 4, 2) := by decide +kernel
theorem dX11_law_19 : decode cX11_law 19 = .ok (.bipush 10, 2) := by decide +kernel
theorem dX11_law_21 : decode cX11_law 21 = .ok (.invokestatic 117, 3) := by decide +kernel
theorem zw_413 : Cond.laysFinal RX4 RX4 "name" "I" ∈ zT := zT_of 729 (by decide +kernel) (by decide +kernel)
theorem zw_414 : Cond.laysFinal RX4 RX4 "left" "LChainwork$Term;" ∈ zT := zT_of 731 (by decide +kernel) (by decide +kernel)
theorem zw_415 : Cond.laysFinal RX4 RX4 "relation" "I" ∈ zT := zT_of 733 (by decide +kernel) (by decide +kernel)
theorem zw_416 : Cond.laysFinal RX4 RX4 "right" "LChainwork$Term;" ∈ zT := zT_of 735 (by decide +kernel) (by decide +kernel)
theorem zw_417 : Cond.lays RX4 RX4 "serial" "I" ∈ zT := zT_of 737 (by decide +kernel) (by decide +kernel)
theorem zw_418 : Cond.lays RX4 RX4 "isProved" "Z" ∈ zT := zT_of 739 (by decide +kernel) (by decide +kernel)
theorem zw_419 : Cond.lays RX4 RX4 "rests" "I" ∈ zT := zT_of 741 (by decide +kernel) (by decide +kernel)
theorem zw_420 : Cond.lays RX4 RX4 "first" "LChainwork$Term;" ∈ zT := zT_of 743 (by decide +kernel) (by decide +kernel)
theorem zw_421 : Cond.lays RX4 RX4 "second" "LChainwork$Term;" ∈ zT := zT_of 745 (by decide +kernel) (by decide +kernel)
theorem zinX4 : ∀ w ∈ u_ws RX4 TX4 9, w ∈ zT := List.forall_mem_cons.mpr ⟨zw_413, List.forall_mem_cons.mpr ⟨zw_414, List.forall_mem_cons.mpr ⟨zw_415, List.forall_mem_cons.mpr ⟨zw_416, List.forall_mem_cons.mpr ⟨zw_417, List.forall_mem_cons.mpr ⟨zw_418, List.forall_mem_cons.mpr ⟨zw_419, List.forall_mem_cons.mpr ⟨zw_420, List.forall_mem_cons.mpr ⟨zw_421, (fun _ h => nomatch h)⟩⟩⟩⟩⟩⟩⟩⟩⟩
theorem zw_422 : Cond.classLink RX11 169 RX4 ∈ zT := zT_of 976 (by decide +kernel) (by decide +kernel)
theorem zw_423 : Cond.instantiable RX4 9 ∈ zT := zT_of 685 (by decide +kernel) (by decide +kernel)
theorem zw_424 : Cond.initialized RX4 ∈ zT := zT_of 20 (by decide +kernel) (by decide +kernel)
theorem dX11_law_24 : decode cX11_law 24 = .ok (.new 169, 3) := by decide +kernel
theorem dX11_law_27 : decode cX11_law 27 = .ok (.dup, 1) := by decide +kernel
theorem dX11_law_28 : decode cX11_law 28 = .ok (.iload_n 1, 1) := by decide +kernel
theorem dX11_law_29 : decode cX11_law 29 = .ok (.aload_n 0, 1) := by decide +kernel
theorem dX11_law_30 : decode cX11_law 30 = .ok (.iload_n 2, 1) := by decide +kernel
theorem dX11_law_31 : decode cX11_law 31 = .ok (.invokevirtual 135, 3) := by decide +kernel
abbrev cX11_condition : ByteArray := prog_1_method_8_code
def yX11_condition : MethodName := ⟨RX11, "condition", "(III)Z"⟩
theorem dX11_condition_0 : decode cX11_condition 0 = .ok (.aload_n 0, 1) := by decide +kernel
theorem dX11_condition_1 : decode cX11_condition 1 = .ok (.iload_n 1, 1) := by decide +kernel
theorem zw_425 : Cond.methodLink RX11 184 yX11_lawThere ∈ zT := zT_of 1003 (by decide +kernel) (by decide +kernel)
theorem zw_426 : Cond.instanceMethod yX11_lawThere ∈ zT := zT_of 1005 (by decide +kernel) (by decide +kernel)
theorem zw_427 : Cond.selects RX11 yX11_lawThere yX11_lawThere ∈ zT := zT_ofS 23 (by decide +kernel) (by decide +kernel)
theorem zw_428 : Cond.code yX11_lawThere cX11_lawThere 3 (some (.object "Chainwork$Law")) ∈ zT := zT_of 1006 (by decide +kernel) (by decide +kernel)
theorem dX11_condition_2 : decode cX11_condition 2 = .ok (.invokevirtual 184, 3) := by decide +kernel
abbrev cX11_equivalence : ByteArray := prog_1_method_9_code
def yX11_equivalence : MethodName := ⟨RX11, "equivalence", "(IIIII)I"⟩
theorem dX11_equivalence_0 : decode cX11_equivalence 0 = .ok (.iload_n 1, 1) := by decide +kernel
theorem dX11_equivalence_1 : decode cX11_equivalence 1 = .ok (.bipush 99, 2) := by decide +kernel
theorem dX11_equivalence_3 : decode cX11_equivalence 3 = .ok (.invokestatic 84, 3) := by decide +kernel
theorem dX11_equivalence_6 : decode cX11_equivalence 6 = .ok (.iload_n 2, 1) := by decide +kernel
theorem dX11_equivalence_7 : decode cX11_equivalence 7 = .ok (.bipush 10, 2) := by decide +kernel
theorem dX11_equivalence_9 : decode cX11_equivalence 9 = .ok (.invokestatic 117, 3) := by decide +kernel
theorem dX11_equivalence_12 : decode cX11_equivalence 12 = .ok (.iload_n 3, 1) := by decide +kernel
theorem dX11_equivalence_13 : decode cX11_equivalence 13 = .ok (.bipush 10, 2) := by decide +kernel
theorem dX11_equivalence_15 : decode cX11_equivalence 15 = .ok (.invokestatic 117, 3) := by decide +kernel
theorem dX11_equivalence_18 : decode cX11_equivalence 18 = .ok (.iload 4, 2) := by decide +kernel
theorem dX11_equivalence_20 : decode cX11_equivalence 20 = .ok (.bipush 10, 2) := by decide +kernel
theorem dX11_equivalence_22 : decode cX11_equivalence 22 = .ok (.invokestatic 117, 3) := by decide +kernel
theorem dX11_equivalence_25 : decode cX11_equivalence 25 = .ok (.iload 5, 2) := by decide +kernel
theorem dX11_equivalence_27 : decode cX11_equivalence 27 = .ok (.bipush 10, 2) := by decide +kernel
theorem dX11_equivalence_29 : decode cX11_equivalence 29 = .ok (.invokestatic 117, 3) := by decide +kernel
theorem dX11_equivalence_32 : decode cX11_equivalence 32 = .ok (.new 169, 3) := by decide +kernel
theorem dX11_equivalence_35 : decode cX11_equivalence 35 = .ok (.dup, 1) := by decide +kernel
theorem dX11_equivalence_36 : decode cX11_equivalence 36 = .ok (.iload_n 1, 1) := by decide +kernel
theorem dX11_equivalence_37 : decode cX11_equivalence 37 = .ok (.aload_n 0, 1) := by decide +kernel
theorem dX11_equivalence_38 : decode cX11_equivalence 38 = .ok (.iload_n 2, 1) := by decide +kernel
theorem dX11_equivalence_39 : decode cX11_equivalence 39 = .ok (.invokevirtual 135, 3) := by decide +kernel
abbrev cX11_assume : ByteArray := prog_1_method_10_code
def yX11_assume : MethodName := ⟨RX11, "assume", "(II)I"⟩
theorem dX11_assume_0 : decode cX11_assume 0 = .ok (.iload_n 1, 1) := by decide +kernel
theorem dX11_assume_1 : decode cX11_assume 1 = .ok (.bipush 10, 2) := by decide +kernel
theorem dX11_assume_3 : decode cX11_assume 3 = .ok (.invokestatic 117, 3) := by decide +kernel
theorem dX11_assume_6 : decode cX11_assume 6 = .ok (.iload_n 2, 1) := by decide +kernel
theorem dX11_assume_7 : decode cX11_assume 7 = .ok (.bipush 10, 2) := by decide +kernel
theorem dX11_assume_9 : decode cX11_assume 9 = .ok (.invokestatic 117, 3) := by decide +kernel
theorem dX11_assume_12 : decode cX11_assume 12 = .ok (.aload_n 0, 1) := by decide +kernel
theorem dX11_assume_13 : decode cX11_assume 13 = .ok (.iload_n 1, 1) := by decide +kernel
theorem dX11_assume_14 : decode cX11_assume 14 = .ok (.invokevirtual 135, 3) := by decide +kernel
abbrev cX11_giveUp : ByteArray := prog_1_method_11_code
def yX11_giveUp : MethodName := ⟨RX11, "giveUp", "()I"⟩
theorem dX11_giveUp_0 : decode cX11_giveUp 0 = .ok (.aload_n 0, 1) := by decide +kernel
theorem zw_429 : Cond.methodLink RX11 256 yX11_latestAssumption ∈ zT := zT_of 1084 (by decide +kernel) (by decide +kernel)
theorem zw_430 : Cond.instanceMethod yX11_latestAssumption ∈ zT := zT_of 1086 (by decide +kernel) (by decide +kernel)
theorem zw_431 : Cond.selects RX11 yX11_latestAssumption yX11_latestAssumption ∈ zT := zT_ofS 24 (by decide +kernel) (by decide +kernel)
theorem zw_432 : Cond.code yX11_latestAssumption cX11_latestAssumption 1 (some (.object "Chainwork$Law")) ∈ zT := zT_of 1087 (by decide +kernel) (by decide +kernel)
theorem dX11_giveUp_1 : decode cX11_giveUp 1 = .ok (.invokevirtual 256, 3) := by decide +kernel
abbrev cX11_end : ByteArray := prog_1_method_12_code
def yX11_end : MethodName := ⟨RX11, "end", "(II)I"⟩
theorem dX11_end_0 : decode cX11_end 0 = .ok (.iload_n 1, 1) := by decide +kernel
theorem dX11_end_1 : decode cX11_end 1 = .ok (.bipush 99, 2) := by decide +kernel
theorem dX11_end_3 : decode cX11_end 3 = .ok (.invokestatic 84, 3) := by decide +kernel
theorem dX11_end_6 : decode cX11_end 6 = .ok (.iload_n 2, 1) := by decide +kernel
theorem dX11_end_7 : decode cX11_end 7 = .ok (.iconst 4, 1) := by decide +kernel
theorem dX11_end_8 : decode cX11_end 8 = .ok (.invokestatic 117, 3) := by decide +kernel
theorem dX11_end_11 : decode cX11_end 11 = .ok (.aload_n 0, 1) := by decide +kernel
theorem dX11_end_12 : decode cX11_end 12 = .ok (.invokevirtual 256, 3) := by decide +kernel
abbrev cX11_begin : ByteArray := prog_1_method_16_code
def yX11_begin : MethodName := ⟨RX11, "begin", "(II)I"⟩
theorem dX11_begin_0 : decode cX11_begin 0 = .ok (.iload_n 1, 1) := by decide +kernel
theorem dX11_begin_1 : decode cX11_begin 1 = .ok (.iconst 4, 1) := by decide +kernel
theorem dX11_begin_2 : decode cX11_begin 2 = .ok (.invokestatic 117, 3) := by decide +kernel
theorem dX11_begin_5 : decode cX11_begin 5 = .ok (.iload_n 2, 1) := by decide +kernel
theorem dX11_begin_6 : decode cX11_begin 6 = .ok (.bipush 10, 2) := by decide +kernel
theorem dX11_begin_8 : decode cX11_begin 8 = .ok (.invokestatic 117, 3) := by decide +kernel
theorem dX11_begin_11 : decode cX11_begin 11 = .ok (.aload_n 0, 1) := by decide +kernel
theorem dX11_begin_12 : decode cX11_begin 12 = .ok (.iload_n 2, 1) := by decide +kernel
theorem dX11_begin_13 : decode cX11_begin 13 = .ok (.invokevirtual 135, 3) := by decide +kernel
abbrev cX11_line : ByteArray := prog_1_method_17_code
def yX11_line : MethodName := ⟨RX11, "line", "(III)I"⟩
theorem dX11_line_0 : decode cX11_line 0 = .ok (.iload_n 1, 1) := by decide +kernel
theorem dX11_line_1 : decode cX11_line 1 = .ok (.iconst 4, 1) := by decide +kernel
theorem dX11_line_2 : decode cX11_line 2 = .ok (.invokestatic 117, 3) := by decide +kernel
theorem dX11_line_5 : decode cX11_line 5 = .ok (.iload_n 3, 1) := by decide +kernel
theorem dX11_line_6 : decode cX11_line 6 = .ok (.bipush 10, 2) := by decide +kernel
theorem dX11_line_8 : decode cX11_line 8 = .ok (.invokestatic 117, 3) := by decide +kernel
theorem dX11_line_11 : decode cX11_line 11 = .ok (.iload_n 2, 1) := by decide +kernel
theorem dX11_line_12 : decode cX11_line 12 = .ok (.bipush 102, 2) := by decide +kernel
theorem dX11_line_14 : decode cX11_line 14 = .ok (.invokestatic 84, 3) := by decide +kernel
theorem dX11_line_17 : decode cX11_line 17 = .ok (.aload_n 0, 1) := by decide +kernel
theorem dX11_line_18 : decode cX11_line 18 = .ok (.iload_n 3, 1) := by decide +kernel
theorem dX11_line_19 : decode cX11_line 19 = .ok (.invokevirtual 135, 3) := by decide +kernel
abbrev cX11_step : ByteArray := prog_1_method_18_code
def yX11_step : MethodName := ⟨RX11, "step", "(III)I"⟩
theorem dX11_step_0 : decode cX11_step 0 = .ok (.iload_n 1, 1) := by decide +kernel
theorem dX11_step_1 : decode cX11_step 1 = .ok (.iconst 4, 1) := by decide +kernel
theorem dX11_step_2 : decode cX11_step 2 = .ok (.invokestatic 117, 3) := by decide +kernel
theorem dX11_step_5 : decode cX11_step 5 = .ok (.iload_n 3, 1) := by decide +kernel
theorem dX11_step_6 : decode cX11_step 6 = .ok (.bipush 10, 2) := by decide +kernel
theorem dX11_step_8 : decode cX11_step 8 = .ok (.invokestatic 117, 3) := by decide +kernel
theorem dX11_step_11 : decode cX11_step 11 = .ok (.aload_n 0, 1) := by decide +kernel
theorem dX11_step_12 : decode cX11_step 12 = .ok (.getfield 10, 3) := by decide +kernel
theorem dX11_step_15 : decode cX11_step 15 = .ok (.iload_n 2, 1) := by decide +kernel
theorem dX11_step_16 : decode cX11_step 16 = .ok (.aload_n 0, 1) := by decide +kernel
theorem dX11_step_17 : decode cX11_step 17 = .ok (.getfield 10, 3) := by decide +kernel
theorem zw_433 : Cond.methodLink RX11 334 yX8_allOpen ∈ zT := zT_of 600 (by decide +kernel) (by decide +kernel)
theorem zw_434 : Cond.instanceMethod yX8_allOpen ∈ zT := zT_of 601 (by decide +kernel) (by decide +kernel)
theorem zw_435 : Cond.selects RX8 yX8_allOpen yX8_allOpen ∈ zT := zT_of 602 (by decide +kernel) (by decide +kernel)
theorem zw_436 : Cond.code yX8_allOpen cX8_allOpen 1 (some .int) ∈ zT := zT_of 603 (by decide +kernel) (by decide +kernel)
theorem dX11_step_20 : decode cX11_step 20 = .ok (.invokevirtual 334, 3) := by decide +kernel
theorem zw_437 : Cond.methodLink RX11 337 yX8_lawOrAssumption ∈ zT := zT_of 1195 (by decide +kernel) (by decide +kernel)
theorem zw_438 : Cond.instanceMethod yX8_lawOrAssumption ∈ zT := zT_of 609 (by decide +kernel) (by decide +kernel)
theorem zw_439 : Cond.selects RX8 yX8_lawOrAssumption yX8_lawOrAssumption ∈ zT := zT_of 610 (by decide +kernel) (by decide +kernel)
theorem zw_440 : Cond.code yX8_lawOrAssumption cX8_lawOrAssumption 4 (some (.object "Chainwork$Law")) ∈ zT := zT_of 611 (by decide +kernel) (by decide +kernel)
theorem dX11_step_23 : decode cX11_step 23 = .ok (.invokevirtual 337, 3) := by decide +kernel
theorem dX11_step_26 : decode cX11_step 26 = .ok (.astore 4, 2) := by decide +kernel
theorem dX11_step_28 : decode cX11_step 28 = .ok (.aload 4, 2) := by decide +kernel
theorem dX11_step_30 : decode cX11_step 30 = .ok (.ifnonnull 14, 3) := by decide +kernel
theorem dX11_step_33 : decode cX11_step 33 = .ok (.new 301, 3) := by decide +kernel
theorem dX11_step_36 : decode cX11_step 36 = .ok (.dup, 1) := by decide +kernel
theorem dX11_step_37 : decode cX11_step 37 = .ok (.ldc_w 341, 3) := by decide +kernel
theorem dX11_step_40 : decode cX11_step 40 = .ok (.invokespecial 305, 3) := by decide +kernel
theorem dX11_step_43 : decode cX11_step 43 = .ok (.athrow, 1) := by decide +kernel
abbrev cX11_term : ByteArray := prog_1_method_4_code
def yX11_term : MethodName := ⟨RX11, "term", "(IIII)I"⟩
theorem dX11_term_0 : decode cX11_term 0 = .ok (.iload_n 1, 1) := by decide +kernel
theorem dX11_term_1 : decode cX11_term 1 = .ok (.bipush 10, 2) := by decide +kernel
theorem dX11_term_3 : decode cX11_term 3 = .ok (.invokestatic 117, 3) := by decide +kernel
theorem dX11_term_6 : decode cX11_term 6 = .ok (.iload_n 2, 1) := by decide +kernel
theorem dX11_term_7 : decode cX11_term 7 = .ok (.aload_n 0, 1) := by decide +kernel
theorem dX11_term_8 : decode cX11_term 8 = .ok (.getfield 10, 3) := by decide +kernel
theorem zw_441 : Cond.fieldLink RX11 88 RX8 "signCount" "I" ∈ zT := zT_of 77 (by decide +kernel) (by decide +kernel)
theorem dX11_term_11 : decode cX11_term 11 = .ok (.getfield 88, 3) := by decide +kernel
theorem dX11_term_14 : decode cX11_term 14 = .ok (.invokestatic 117, 3) := by decide +kernel
abbrev cX11_undo : ByteArray := prog_1_method_25_code
def yX11_undo : MethodName := ⟨RX11, "undo", "()I"⟩
theorem dX11_undo_0 : decode cX11_undo 0 = .ok (.aload_n 0, 1) := by decide +kernel
theorem dX11_undo_1 : decode cX11_undo 1 = .ok (.getfield 24, 3) := by decide +kernel
theorem dX11_undo_4 : decode cX11_undo 4 = .ok (.ifCond .ne 14, 3) := by decide +kernel
theorem dX11_undo_7 : decode cX11_undo 7 = .ok (.new 91, 3) := by decide +kernel
theorem dX11_undo_10 : decode cX11_undo 10 = .ok (.dup, 1) := by decide +kernel
theorem dX11_undo_11 : decode cX11_undo 11 = .ok (.ldc_w 396, 3) := by decide +kernel
theorem dX11_undo_14 : decode cX11_undo 14 = .ok (.invokespecial 95, 3) := by decide +kernel
theorem dX11_undo_17 : decode cX11_undo 17 = .ok (.athrow, 1) := by decide +kernel
abbrev cX11_write : ByteArray := prog_1_method_30_code
def yX11_write : MethodName := ⟨RX11, "write", "(I)I"⟩
theorem dX11_write_0 : decode cX11_write 0 = .ok (.iload_n 1, 1) := by decide +kernel
theorem dX11_write_1 : decode cX11_write 1 = .ok (.bipush 10, 2) := by decide +kernel
theorem dX11_write_3 : decode cX11_write 3 = .ok (.invokestatic 117, 3) := by decide +kernel
theorem dX11_write_6 : decode cX11_write 6 = .ok (.aload_n 0, 1) := by decide +kernel
theorem dX11_write_7 : decode cX11_write 7 = .ok (.iload_n 1, 1) := by decide +kernel
theorem dX11_write_8 : decode cX11_write 8 = .ok (.invokevirtual 135, 3) := by decide +kernel
abbrev cX11_writeLaw : ByteArray := prog_1_method_31_code
def yX11_writeLaw : MethodName := ⟨RX11, "writeLaw", "(I)I"⟩
theorem dX11_writeLaw_0 : decode cX11_writeLaw 0 = .ok (.aload_n 0, 1) := by decide +kernel
theorem dX11_writeLaw_1 : decode cX11_writeLaw 1 = .ok (.iload_n 1, 1) := by decide +kernel
theorem dX11_writeLaw_2 : decode cX11_writeLaw 2 = .ok (.invokevirtual 184, 3) := by decide +kernel
abbrev cX11_outputAt : ByteArray := prog_1_method_32_code
def yX11_outputAt : MethodName := ⟨RX11, "outputAt", "(I)I"⟩
theorem dX11_outputAt_0 : decode cX11_outputAt 0 = .ok (.iload_n 1, 1) := by decide +kernel
theorem dX11_outputAt_1 : decode cX11_outputAt 1 = .ok (.ifCond .lt 14, 3) := by decide +kernel
theorem dX11_outputAt_15 : decode cX11_outputAt 15 = .ok (.new 301, 3) := by decide +kernel
theorem dX11_outputAt_18 : decode cX11_outputAt 18 = .ok (.dup, 1) := by decide +kernel
theorem dX11_outputAt_19 : decode cX11_outputAt 19 = .ok (.ldc_w 412, 3) := by decide +kernel
theorem dX11_outputAt_22 : decode cX11_outputAt 22 = .ok (.invokespecial 305, 3) := by decide +kernel
theorem dX11_outputAt_25 : decode cX11_outputAt 25 = .ok (.athrow, 1) := by decide +kernel
theorem dX11_outputAt_4 : decode cX11_outputAt 4 = .ok (.iload_n 1, 1) := by decide +kernel
theorem dX11_outputAt_5 : decode cX11_outputAt 5 = .ok (.aload_n 0, 1) := by decide +kernel
theorem dX11_outputAt_6 : decode cX11_outputAt 6 = .ok (.getfield 46, 3) := by decide +kernel
theorem zw_442 : Cond.fieldLink RX11 400 RX10 "count" "I" ∈ zT := zT_of 141 (by decide +kernel) (by decide +kernel)
theorem dX11_outputAt_9 : decode cX11_outputAt 9 = .ok (.getfield 400, 3) := by decide +kernel
theorem dX11_outputAt_12 : decode cX11_outputAt 12 = .ok (.if_icmp .lt 14, 3) := by decide +kernel
abbrev cX11_direction : ByteArray := prog_1_method_36_code
def yX11_direction : MethodName := ⟨RX11, "direction", "(II)I"⟩
theorem dX11_direction_0 : decode cX11_direction 0 = .ok (.iload_n 1, 1) := by decide +kernel
theorem dX11_direction_1 : decode cX11_direction 1 = .ok (.bipush 10, 2) := by decide +kernel
theorem dX11_direction_3 : decode cX11_direction 3 = .ok (.invokestatic 117, 3) := by decide +kernel
theorem dX11_direction_6 : decode cX11_direction 6 = .ok (.aload_n 0, 1) := by decide +kernel
theorem dX11_direction_7 : decode cX11_direction 7 = .ok (.iload_n 1, 1) := by decide +kernel
theorem dX11_direction_8 : decode cX11_direction 8 = .ok (.invokevirtual 135, 3) := by decide +kernel
abbrev cX11_lawAt : ByteArray := prog_1_method_38_code
def yX11_lawAt : MethodName := ⟨RX11, "lawAt", "(II)I"⟩
theorem dX11_lawAt_0 : decode cX11_lawAt 0 = .ok (.aload_n 0, 1) := by decide +kernel
theorem dX11_lawAt_1 : decode cX11_lawAt 1 = .ok (.iload_n 1, 1) := by decide +kernel
theorem dX11_lawAt_2 : decode cX11_lawAt 2 = .ok (.invokevirtual 184, 3) := by decide +kernel
abbrev cX11_rests : ByteArray := prog_1_method_39_code
def yX11_rests : MethodName := ⟨RX11, "rests", "(II)Z"⟩
theorem dX11_rests_0 : decode cX11_rests 0 = .ok (.aload_n 0, 1) := by decide +kernel
theorem dX11_rests_1 : decode cX11_rests 1 = .ok (.iload_n 1, 1) := by decide +kernel
theorem dX11_rests_2 : decode cX11_rests 2 = .ok (.invokevirtual 184, 3) := by decide +kernel
abbrev cX11_fails : ByteArray := prog_1_method_47_code
def yX11_fails : MethodName := ⟨RX11, "fails", "(IIII)I"⟩
theorem dX11_fails_0 : decode cX11_fails 0 = .ok (.iload_n 1, 1) := by decide +kernel
theorem dX11_fails_1 : decode cX11_fails 1 = .ok (.bipush 10, 2) := by decide +kernel
theorem dX11_fails_3 : decode cX11_fails 3 = .ok (.invokestatic 117, 3) := by decide +kernel
theorem dX11_fails_6 : decode cX11_fails 6 = .ok (.iload_n 3, 1) := by decide +kernel
theorem dX11_fails_7 : decode cX11_fails 7 = .ok (.bipush 10, 2) := by decide +kernel
theorem dX11_fails_9 : decode cX11_fails 9 = .ok (.invokestatic 117, 3) := by decide +kernel
theorem dX11_fails_12 : decode cX11_fails 12 = .ok (.new 169, 3) := by decide +kernel
theorem dX11_fails_15 : decode cX11_fails 15 = .ok (.dup, 1) := by decide +kernel
theorem dX11_fails_16 : decode cX11_fails 16 = .ok (.iconst (-1), 1) := by decide +kernel
theorem dX11_fails_17 : decode cX11_fails 17 = .ok (.aload_n 0, 1) := by decide +kernel
theorem dX11_fails_18 : decode cX11_fails 18 = .ok (.iload_n 1, 1) := by decide +kernel
theorem dX11_fails_19 : decode cX11_fails 19 = .ok (.invokevirtual 135, 3) := by decide +kernel
abbrev cX11_value : ByteArray := prog_1_method_48_code
def yX11_value : MethodName := ⟨RX11, "value", "(III)I"⟩
theorem dX11_value_0 : decode cX11_value 0 = .ok (.iload_n 2, 1) := by decide +kernel
theorem dX11_value_1 : decode cX11_value 1 = .ok (.bipush 10, 2) := by decide +kernel
theorem dX11_value_3 : decode cX11_value 3 = .ok (.invokestatic 117, 3) := by decide +kernel
theorem dX11_value_6 : decode cX11_value 6 = .ok (.aload_n 0, 1) := by decide +kernel
theorem dX11_value_7 : decode cX11_value 7 = .ok (.iload_n 2, 1) := by decide +kernel
theorem dX11_value_8 : decode cX11_value 8 = .ok (.invokevirtual 135, 3) := by decide +kernel
abbrev cX11_restore : ByteArray := prog_1_method_24_code
def yX11_restore : MethodName := ⟨RX11, "restore", "(I)I"⟩
theorem dX11_restore_0 : decode cX11_restore 0 = .ok (.iload_n 1, 1) := by decide +kernel
theorem dX11_restore_1 : decode cX11_restore 1 = .ok (.iconst 2, 1) := by decide +kernel
theorem dX11_restore_2 : decode cX11_restore 2 = .ok (.invokestatic 117, 3) := by decide +kernel
theorem dX11_restore_5 : decode cX11_restore 5 = .ok (.aload_n 0, 1) := by decide +kernel
theorem dX11_restore_6 : decode cX11_restore 6 = .ok (.getfield 30, 3) := by decide +kernel
theorem dX11_restore_9 : decode cX11_restore 9 = .ok (.iload_n 1, 1) := by decide +kernel
theorem dX11_restore_10 : decode cX11_restore 10 = .ok (.baload, 1) := by decide +kernel
theorem dX11_restore_11 : decode cX11_restore 11 = .ok (.ifCond .ne 14, 3) := by decide +kernel
theorem dX11_restore_14 : decode cX11_restore 14 = .ok (.new 91, 3) := by decide +kernel
theorem dX11_restore_17 : decode cX11_restore 17 = .ok (.dup, 1) := by decide +kernel
theorem dX11_restore_18 : decode cX11_restore 18 = .ok (.ldc_w 390, 3) := by decide +kernel
theorem dX11_restore_21 : decode cX11_restore 21 = .ok (.invokespecial 95, 3) := by decide +kernel
theorem dX11_restore_24 : decode cX11_restore 24 = .ok (.athrow, 1) := by decide +kernel
abbrev cX11_cases : ByteArray := prog_1_method_14_code
def yX11_cases : MethodName := ⟨RX11, "cases", "(III)I"⟩
theorem dX11_cases_0 : decode cX11_cases 0 = .ok (.iload_n 1, 1) := by decide +kernel
theorem dX11_cases_1 : decode cX11_cases 1 = .ok (.bipush 99, 2) := by decide +kernel
theorem dX11_cases_3 : decode cX11_cases 3 = .ok (.invokestatic 84, 3) := by decide +kernel
theorem dX11_cases_6 : decode cX11_cases 6 = .ok (.aload_n 0, 1) := by decide +kernel
theorem dX11_cases_7 : decode cX11_cases 7 = .ok (.getfield 10, 3) := by decide +kernel
theorem dX11_cases_10 : decode cX11_cases 10 = .ok (.iload_n 2, 1) := by decide +kernel
theorem dX11_cases_11 : decode cX11_cases 11 = .ok (.invokevirtual 277, 3) := by decide +kernel
theorem dX11_cases_14 : decode cX11_cases 14 = .ok (.astore 4, 2) := by decide +kernel
theorem dX11_cases_16 : decode cX11_cases 16 = .ok (.aload_n 0, 1) := by decide +kernel
theorem dX11_cases_17 : decode cX11_cases 17 = .ok (.getfield 10, 3) := by decide +kernel
theorem dX11_cases_20 : decode cX11_cases 20 = .ok (.iload_n 3, 1) := by decide +kernel
theorem dX11_cases_21 : decode cX11_cases 21 = .ok (.invokevirtual 277, 3) := by decide +kernel
theorem dX11_cases_24 : decode cX11_cases 24 = .ok (.astore 5, 2) := by decide +kernel
theorem dX11_cases_26 : decode cX11_cases 26 = .ok (.aload 4, 2) := by decide +kernel
theorem dX11_cases_28 : decode cX11_cases 28 = .ok (.ifnull 29, 3) := by decide +kernel
theorem dX11_cases_57 : decode cX11_cases 57 = .ok (.aload_n 0, 1) := by decide +kernel
theorem dX11_cases_58 : decode cX11_cases 58 = .ok (.iload_n 2, 1) := by decide +kernel
theorem dX11_cases_59 : decode cX11_cases 59 = .ok (.invokevirtual 184, 3) := by decide +kernel
abbrev cX11_across : ByteArray := prog_1_method_15_code
def yX11_across : MethodName := ⟨RX11, "across", "(IIIZ)I"⟩
theorem dX11_across_0 : decode cX11_across 0 = .ok (.iload_n 1, 1) := by decide +kernel
theorem dX11_across_1 : decode cX11_across 1 = .ok (.bipush 99, 2) := by decide +kernel
theorem dX11_across_3 : decode cX11_across 3 = .ok (.invokestatic 84, 3) := by decide +kernel
theorem dX11_across_6 : decode cX11_across 6 = .ok (.aload_n 0, 1) := by decide +kernel
theorem dX11_across_7 : decode cX11_across 7 = .ok (.getfield 10, 3) := by decide +kernel
theorem dX11_across_10 : decode cX11_across 10 = .ok (.iload_n 2, 1) := by decide +kernel
theorem dX11_across_11 : decode cX11_across 11 = .ok (.invokevirtual 277, 3) := by decide +kernel
theorem dX11_across_14 : decode cX11_across 14 = .ok (.astore 5, 2) := by decide +kernel
theorem dX11_across_16 : decode cX11_across 16 = .ok (.aload_n 0, 1) := by decide +kernel
theorem dX11_across_17 : decode cX11_across 17 = .ok (.getfield 10, 3) := by decide +kernel
theorem dX11_across_20 : decode cX11_across 20 = .ok (.iload_n 3, 1) := by decide +kernel
theorem zw_443 : Cond.methodLink RX11 291 yX8_equivalenceNamed ∈ zT := zT_of 1135 (by decide +kernel) (by decide +kernel)
theorem zw_444 : Cond.instanceMethod yX8_equivalenceNamed ∈ zT := zT_of 987 (by decide +kernel) (by decide +kernel)
theorem zw_445 : Cond.selects RX8 yX8_equivalenceNamed yX8_equivalenceNamed ∈ zT := zT_of 988 (by decide +kernel) (by decide +kernel)
theorem zw_446 : Cond.code yX8_equivalenceNamed cX8_equivalenceNamed 3 (some (.object "Chainwork$Equivalence")) ∈ zT := zT_of 989 (by decide +kernel) (by decide +kernel)
theorem dX11_across_21 : decode cX11_across 21 = .ok (.invokevirtual 291, 3) := by decide +kernel
theorem dX11_across_24 : decode cX11_across 24 = .ok (.astore 6, 2) := by decide +kernel
theorem dX11_across_26 : decode cX11_across 26 = .ok (.aload 5, 2) := by decide +kernel
theorem dX11_across_28 : decode cX11_across 28 = .ok (.ifnull 35, 3) := by decide +kernel
theorem dX11_across_63 : decode cX11_across 63 = .ok (.aload 5, 2) := by decide +kernel
theorem dX11_across_65 : decode cX11_across 65 = .ok (.ifnull 8, 3) := by decide +kernel
theorem dX11_across_73 : decode cX11_across 73 = .ok (.new 301, 3) := by decide +kernel
theorem dX11_across_76 : decode cX11_across 76 = .ok (.dup, 1) := by decide +kernel
theorem dX11_across_77 : decode cX11_across 77 = .ok (.ldc_w 303, 3) := by decide +kernel
theorem dX11_across_80 : decode cX11_across 80 = .ok (.invokespecial 305, 3) := by decide +kernel
theorem dX11_across_83 : decode cX11_across 83 = .ok (.athrow, 1) := by decide +kernel
abbrev cX11_termAt : ByteArray := prog_1_method_34_code
def yX11_termAt : MethodName := ⟨RX11, "termAt", "(II)I"⟩
theorem dX11_termAt_0 : decode cX11_termAt 0 = .ok (.iload_n 1, 1) := by decide +kernel
theorem dX11_termAt_1 : decode cX11_termAt 1 = .ok (.bipush 10, 2) := by decide +kernel
theorem dX11_termAt_3 : decode cX11_termAt 3 = .ok (.invokestatic 117, 3) := by decide +kernel
theorem dX11_termAt_6 : decode cX11_termAt 6 = .ok (.iload_n 2, 1) := by decide +kernel
theorem dX11_termAt_7 : decode cX11_termAt 7 = .ok (.iconst 3, 1) := by decide +kernel
theorem dX11_termAt_8 : decode cX11_termAt 8 = .ok (.invokestatic 84, 3) := by decide +kernel
theorem dX11_termAt_11 : decode cX11_termAt 11 = .ok (.aload_n 0, 1) := by decide +kernel
theorem dX11_termAt_12 : decode cX11_termAt 12 = .ok (.getfield 10, 3) := by decide +kernel
theorem dX11_termAt_15 : decode cX11_termAt 15 = .ok (.getfield 120, 3) := by decide +kernel
theorem dX11_termAt_18 : decode cX11_termAt 18 = .ok (.iload_n 1, 1) := by decide +kernel
theorem dX11_termAt_19 : decode cX11_termAt 19 = .ok (.aaload, 1) := by decide +kernel
theorem dX11_termAt_20 : decode cX11_termAt 20 = .ok (.astore_n 3, 1) := by decide +kernel
theorem dX11_termAt_21 : decode cX11_termAt 21 = .ok (.aload_n 3, 1) := by decide +kernel
theorem dX11_termAt_22 : decode cX11_termAt 22 = .ok (.ifnonnull 5, 3) := by decide +kernel
theorem dX11_termAt_25 : decode cX11_termAt 25 = .ok (.iconst (-1), 1) := by decide +kernel
theorem dX11_termAt_26 : decode cX11_termAt 26 = .ok (.ireturn, 1) := by decide +kernel
abbrev cX11_areSame : ByteArray := prog_1_method_35_code
def yX11_areSame : MethodName := ⟨RX11, "areSame", "(II)Z"⟩
theorem dX11_areSame_0 : decode cX11_areSame 0 = .ok (.iload_n 1, 1) := by decide +kernel
theorem dX11_areSame_1 : decode cX11_areSame 1 = .ok (.bipush 10, 2) := by decide +kernel
theorem dX11_areSame_3 : decode cX11_areSame 3 = .ok (.invokestatic 117, 3) := by decide +kernel
theorem dX11_areSame_6 : decode cX11_areSame 6 = .ok (.iload_n 2, 1) := by decide +kernel
theorem dX11_areSame_7 : decode cX11_areSame 7 = .ok (.bipush 10, 2) := by decide +kernel
theorem dX11_areSame_9 : decode cX11_areSame 9 = .ok (.invokestatic 117, 3) := by decide +kernel
theorem dX11_areSame_12 : decode cX11_areSame 12 = .ok (.aload_n 0, 1) := by decide +kernel
theorem dX11_areSame_13 : decode cX11_areSame 13 = .ok (.getfield 10, 3) := by decide +kernel
theorem dX11_areSame_16 : decode cX11_areSame 16 = .ok (.getfield 120, 3) := by decide +kernel
theorem dX11_areSame_19 : decode cX11_areSame 19 = .ok (.iload_n 1, 1) := by decide +kernel
theorem dX11_areSame_20 : decode cX11_areSame 20 = .ok (.aaload, 1) := by decide +kernel
theorem dX11_areSame_21 : decode cX11_areSame 21 = .ok (.astore_n 3, 1) := by decide +kernel
theorem dX11_areSame_22 : decode cX11_areSame 22 = .ok (.aload_n 0, 1) := by decide +kernel
theorem dX11_areSame_23 : decode cX11_areSame 23 = .ok (.getfield 10, 3) := by decide +kernel
theorem dX11_areSame_26 : decode cX11_areSame 26 = .ok (.getfield 120, 3) := by decide +kernel
theorem dX11_areSame_29 : decode cX11_areSame 29 = .ok (.iload_n 2, 1) := by decide +kernel
theorem dX11_areSame_30 : decode cX11_areSame 30 = .ok (.aaload, 1) := by decide +kernel
theorem dX11_areSame_31 : decode cX11_areSame 31 = .ok (.astore 4, 2) := by decide +kernel
theorem dX11_areSame_33 : decode cX11_areSame 33 = .ok (.aload_n 3, 1) := by decide +kernel
theorem dX11_areSame_34 : decode cX11_areSame 34 = .ok (.ifnull 21, 3) := by decide +kernel
theorem dX11_areSame_55 : decode cX11_areSame 55 = .ok (.iconst 0, 1) := by decide +kernel
theorem dX11_areSame_56 : decode cX11_areSame 56 = .ok (.ireturn, 1) := by decide +kernel
abbrev cX11_find : ByteArray := prog_1_method_23_code
def yX11_find : MethodName := ⟨RX11, "find", "(IIIII)I"⟩
theorem dX11_find_0 : decode cX11_find 0 = .ok (.iload_n 1, 1) := by decide +kernel
theorem dX11_find_1 : decode cX11_find 1 = .ok (.iconst 4, 1) := by decide +kernel
theorem dX11_find_2 : decode cX11_find 2 = .ok (.invokestatic 117, 3) := by decide +kernel
theorem dX11_find_5 : decode cX11_find 5 = .ok (.iload_n 2, 1) := by decide +kernel
theorem dX11_find_6 : decode cX11_find 6 = .ok (.bipush 10, 2) := by decide +kernel
theorem dX11_find_8 : decode cX11_find 8 = .ok (.invokestatic 117, 3) := by decide +kernel
theorem dX11_find_11 : decode cX11_find 11 = .ok (.iload_n 3, 1) := by decide +kernel
theorem dX11_find_12 : decode cX11_find 12 = .ok (.bipush 10, 2) := by decide +kernel
theorem dX11_find_14 : decode cX11_find 14 = .ok (.invokestatic 117, 3) := by decide +kernel
theorem dX11_find_17 : decode cX11_find 17 = .ok (.iload 4, 2) := by decide +kernel
theorem dX11_find_19 : decode cX11_find 19 = .ok (.iconst 2, 1) := by decide +kernel
theorem dX11_find_20 : decode cX11_find 20 = .ok (.invokestatic 84, 3) := by decide +kernel
theorem dX11_find_23 : decode cX11_find 23 = .ok (.iload 5, 2) := by decide +kernel
theorem dX11_find_25 : decode cX11_find 25 = .ok (.iconst 4, 1) := by decide +kernel
theorem dX11_find_26 : decode cX11_find 26 = .ok (.invokestatic 84, 3) := by decide +kernel
theorem dX11_find_29 : decode cX11_find 29 = .ok (.aload_n 0, 1) := by decide +kernel
theorem dX11_find_30 : decode cX11_find 30 = .ok (.getfield 73, 3) := by decide +kernel
theorem dX11_find_33 : decode cX11_find 33 = .ok (.aload_n 0, 1) := by decide +kernel
theorem dX11_find_34 : decode cX11_find 34 = .ok (.getfield 10, 3) := by decide +kernel
theorem dX11_find_37 : decode cX11_find 37 = .ok (.aload_n 0, 1) := by decide +kernel
theorem dX11_find_38 : decode cX11_find 38 = .ok (.iload_n 2, 1) := by decide +kernel
theorem dX11_find_39 : decode cX11_find 39 = .ok (.invokevirtual 135, 3) := by decide +kernel
set_option maxHeartbeats 4000000 in
set_option maxRecDepth 100000 in
theorem k_X11_filled (l : Launch) (hl0 : l.stackTraces = false) (sz : Nat) (D : va_G) (h cs : Nat → Nat) (k : Int32) (hk : 0 ≤ k.toInt ∧ k.toInt < 10) : vx_Met l yX11_filled (.code yX11_filled cX11_filled 3 (some (.object "Chainwork$Term")) :: zT) ({ frames := 6, cells := 1, slots := 6, locals := 90 }) (va_Pc [.ref (h 0), .int k] (zW D [((h 0), .inr (11, [.ref (h 1), .ref (h 9), .int 0, .int 0, .ref (h 20), .ref (h 37), .int 0, .ref (h 38), .ref (h 42), .ref (h 43), .ref (h 44), .ref (h 45), .ref (h 46), .ref (h 47), .ref (h 48)])), ((h 1), .inr (8, [.ref (h 2), .int 0, .ref (h 3), .ref (h 4), .int 0, .ref (h 5), .int 0, .ref (h 6), .int 0, .ref (h 7), .int 0])), ((h 3), .inl ((cs 9), 10, .inr (.inr (.inr (.inr (fun _ => none))))))] [((cs 9), .object RX9)] sz)) (va_Qq (fun (_ : Option Nat) (_ : Unit) => False) (fun _ t => zE D [] [] (va_A [((h 0), .inr (11, [.ref (h 1), .ref (h 9), .int 0, .int 0, .ref (h 20), .ref (h 37), .int 0, .ref (h 38), .ref (h 42), .ref (h 43), .ref (h 44), .ref (h 45), .ref (h 46), .ref (h 47), .ref (h 48)])), ((h 1), .inr (8, [.ref (h 2), .int 0, .ref (h 3), .ref (h 4), .int 0, .ref (h 5), .int 0, .ref (h 6), .int 0, .ref (h 7), .int 0])), ((h 3), .inl ((cs 9), 10, .inr (.inr (.inr (.inr (fun _ => none))))))] sz) t) (va_A [((h 0), .inr (11, [.ref (h 1), .ref (h 9), .int 0, .int 0, .ref (h 20), .ref (h 37), .int 0, .ref (h 38), .ref (h 42), .ref (h 43), .ref (h 44), .ref (h 45), .ref (h 46), .ref (h 47), .ref (h 48)])), ((h 1), .inr (8, [.ref (h 2), .int 0, .ref (h 3), .ref (h 4), .int 0, .ref (h 5), .int 0, .ref (h 6), .int 0, .ref (h 7), .int 0])), ((h 3), .inl ((cs 9), 10, .inr (.inr (.inr (.inr (fun _ => none))))))] sz)) (vx_X (fun _ : Unit => True) (fun E _ _ => E = "java/lang/IllegalStateException" ∧ True) (va_A [((h 0), .inr (11, [.ref (h 1), .ref (h 9), .int 0, .int 0, .ref (h 20), .ref (h 37), .int 0, .ref (h 38), .ref (h 42), .ref (h 43), .ref (h 44), .ref (h 45), .ref (h 46), .ref (h 47), .ref (h 48)])), ((h 1), .inr (8, [.ref (h 2), .int 0, .ref (h 3), .ref (h 4), .int 0, .ref (h 5), .int 0, .ref (h 6), .int 0, .ref (h 7), .int 0])), ((h 3), .inl ((cs 9), 10, .inr (.inr (.inr (.inr (fun _ => none))))))] sz)) 1 6 (va_A [((h 0), .inr (11, [.ref (h 1), .ref (h 9), .int 0, .int 0, .ref (h 20), .ref (h 37), .int 0, .ref (h 38), .ref (h 42), .ref (h 43), .ref (h 44), .ref (h 45), .ref (h 46), .ref (h 47), .ref (h 48)])), ((h 1), .inr (8, [.ref (h 2), .int 0, .ref (h 3), .ref (h 4), .int 0, .ref (h 5), .int 0, .ref (h 6), .int 0, .ref (h 7), .int 0])), ((h 3), .inl ((cs 9), 10, .inr (.inr (.inr (.inr (fun _ => none))))))] sz) := by
  refine vx_ofW (cc := cX11_filled) (maxL := 3) (ret := (some (.object "Chainwork$Term"))) (by decide) rfl ?_
  intro p e s m args below meth c s₁ B hml hexc hv
  obtain ⟨rfl, hEx, hsz, hP, hK, hD0⟩ := hv
  have hx := B.exec
  have hb := B.bytes
  have hr := B.returns
  have hts := atoms_spec (ws := (.code yX11_filled cX11_filled 3 (some (.object "Chainwork$Term")) :: zT)) B.pre
  have ht : ∀ w ∈ zT, w.before _ s = true := fun w h => hts w (List.mem_cons_of_mem _ h)
  have hown : s.vm.findClass RX11 = some m.cls := findClass_of_methodNamed B.named
  have hlocks := B.notSynchronized
  subst hsz
  have hD := hD0.self (sz := s.heap.size)
  generalize hAe : va_A [((h 0), .inr (11, [.ref (h 1), .ref (h 9), .int 0, .int 0, .ref (h 20), .ref (h 37), .int 0, .ref (h 38), .ref (h 42), .ref (h 43), .ref (h 44), .ref (h 45), .ref (h 46), .ref (h 47), .ref (h 48)])), ((h 1), .inr (8, [.ref (h 2), .int 0, .ref (h 3), .ref (h 4), .int 0, .ref (h 5), .int 0, .ref (h 6), .int 0, .ref (h 7), .int 0])), ((h 3), .inl ((cs 9), 10, .inr (.inr (.inr (.inr (fun _ => none))))))] s.heap.size = A at hD hEx ⊢
  have hA : ∀ q : Nat, s.heap.size ≤ q → A q := fun q h => by rw [← hAe]; exact Or.inr h
  have hS : va_S A s.heap s.heap [] := va_S.rf
  have hP : va_P D vwCl [((h 0), .inr (11, [.ref (h 1), .ref (h 9), .int 0, .int 0, .ref (h 20), .ref (h 37), .int 0, .ref (h 38), .ref (h 42), .ref (h 43), .ref (h 44), .ref (h 45), .ref (h 46), .ref (h 47), .ref (h 48)])), ((h 1), .inr (8, [.ref (h 2), .int 0, .ref (h 3), .ref (h 4), .int 0, .ref (h 5), .int 0, .ref (h 6), .int 0, .ref (h 7), .int 0])), ((h 3), .inl ((cs 9), 10, .inr (.inr (.inr (.inr (fun _ => none))))))] s.heap := hP
  have hl := lv_entry ([.ref (h 0), .int k]) (n := 3) (Nat.le_of_ble_eq_true rfl)
  rw [lg_entry_eq]
  generalize (lg_sl ([.ref (h 0), .int k]) ++ List.replicate (3 - (lg_sl ([.ref (h 0), .int k])).length) Slot.unset).toArray = ls at hl ⊢
  have hl : lv_has ls 3 [(0, .ref (h 0)), (1, .int k)] := hl
  skip
  refine lv_aload_n hx hb dX11_filled_0 rfl (lv_at hl 0 rfl) ?_
  refine va_get (D := D) (ci := 11) (v := .ref (h 1)) (C := RX11) (T := TX11) (N := 15) hx hb ht zinX11 hown hK hP 0 rfl rfl 0 (by decide) (ht _ zw_353) (fun _ h9 => h9) rfl dX11_filled_1 ?_
  refine va_get (D := D) (ci := 8) (v := .ref (h 3)) (C := RX8) (T := TX8) (N := 11) hx hb ht zinX8 hown hK hP 1 rfl rfl 2 (by decide) (ht _ zw_391) (fun _ h9 => h9) rfl dX11_filled_4 ?_
  refine lv_iload_n hx hb dX11_filled_7 rfl (lv_at hl 1 rfl) ?_
  refine va_aldq hx hb hK hP 2 0 rfl rfl (vp_in_iff.mpr ⟨hk.1, by have hq := hk.2; omega⟩) dX11_filled_8 ?_
  refine W.eq (g2 := F0 m 9 ls (.null :: [])) rfl ?_
  refine lv_astore_nN (lv' := [(2, .null), (0, .ref (h 0)), (1, .int k)]) hx hb dX11_filled_9 rfl hl (by decide) rfl (fun ls hl => ?_)
  refine lv_aload_nN hx hb dX11_filled_10 rfl (lv_at hl 0 rfl) ?_
  refine lv_ifnonnullN hx hb dX11_filled_11 ?_
  exact zthrow (k := 3) (names := ["java/lang/RuntimeException", "java/lang/Exception"]) (ix := 7) (rx := zSix) (text := "the register is empty") (is := 508) hx hb hl0 (by decide) (by decide) (by decide +kernel) (by decide +kernel) (by decide +kernel) (by decide +kernel) zw_392 zw_393 zAt_ISE zOt_ISE (by decide +kernel) (by decide +kernel) hown ht hEx hS (hl.1.trans hml.symm) dX11_filled_14 dX11_filled_17 (.inr ⟨dX11_filled_18, rfl⟩) dX11_filled_21 dX11_filled_24 hexc (Nat.le_of_ble_eq_true rfl) (Nat.le_of_ble_eq_true rfl) (Nat.le_of_ble_eq_true rfl) (Nat.le_of_ble_eq_true rfl) hlocks (fun t hvm hF => ⟨(), trivial, ⟨rfl, trivial⟩, hF⟩) hS.2.2 (Nat.le_of_ble_eq_true rfl) (Nat.le_of_ble_eq_true rfl)
set_option maxHeartbeats 4000000 in
set_option maxRecDepth 100000 in
theorem k_X8_lawNamed (l : Launch) (D : va_G) (h cs : Nat → Nat) (k : Int32) : Met l yX8_lawNamed (.code yX8_lawNamed cX8_lawNamed 2 (some (.object "Chainwork$Law")) :: zT) ({ frames := 0, cells := 0, slots := 0, locals := 0 }) (va_Pc [.ref (h 1), .int k] (zR D [((h 1), .inr (8, [.ref (h 2), .int 0, .ref (h 3), .ref (h 4), .int 0, .ref (h 5), .int 0, .ref (h 6), .int 0, .ref (h 7), .int 0])), ((h 4), .inl ((cs 4), 100, .inr (.inr (.inr (.inr (fun _ => none))))))] [((cs 4), .object RX4)])) (va_Sq (fun r => r = none)) 0 0 (fun _ => False) := by
  refine Met.ofW (cc := cX8_lawNamed) (maxL := 2) (ret := (some (.object "Chainwork$Law"))) (by decide) rfl ?_
  intro p e s m args below meth c s₁ B hml hv
  obtain ⟨rfl, hP, hK⟩ := hv
  have hx := B.exec
  have hb := B.bytes
  have hr := B.returns
  have hts := atoms_spec (ws := (.code yX8_lawNamed cX8_lawNamed 2 (some (.object "Chainwork$Law")) :: zT)) B.pre
  have ht : ∀ w ∈ zT, w.before _ s = true := fun w h => hts w (List.mem_cons_of_mem _ h)
  have hown : s.vm.findClass RX8 = some m.cls := findClass_of_methodNamed B.named
  have hlocks := B.notSynchronized
  have hl := lv_entry ([.ref (h 1), .int k]) (n := 2) (Nat.le_of_ble_eq_true rfl)
  rw [lg_entry_eq]
  generalize (lg_sl ([.ref (h 1), .int k]) ++ List.replicate (2 - (lg_sl ([.ref (h 1), .int k])).length) Slot.unset).toArray = ls at hl ⊢
  have hl : lv_has ls 2 [(0, .ref (h 1)), (1, .int k)] := hl
  skip
  refine lv_iload_n hx hb dX8_lawNamed_0 rfl (lv_at hl 1 rfl) ?_
  refine lv_if_lt (tgt := 19) hx hb dX8_lawNamed_1 (by decide) (fun c_1 => ?_) (fun c_1 => ?_)
  · skip
    simp only [fa_lt, fa_le, fa_eq, Int32.reduceToInt] at c_1
    refine lv_null hx hb dX8_lawNamed_19 ?_
    refine W.widen (k := 0) (n := 0) (Nat.le_of_ble_eq_true rfl) (Nat.le_of_ble_eq_true rfl) ?_
    exact W.aret (v := .null) hx hb hr (.inl ⟨_, rfl⟩) (.inl rfl) (fun t ht hW => ⟨none, rfl, rfl, ht⟩) (fun q h => nomatch h) dX8_lawNamed_20
  · skip
    simp only [fa_lt, fa_le, fa_eq, Int32.reduceToInt] at c_1
    refine lv_iload_n hx hb dX8_lawNamed_4 rfl (lv_at hl 1 rfl) ?_
    refine lv_bipush (v := 100) hx hb dX8_lawNamed_5 (by decide) ?_
    refine lv_icmp_ge (tgt := 19) hx hb dX8_lawNamed_7 (by decide) (fun c_2 => ?_) (fun c_2 => ?_)
    · skip
      simp only [fa_lt, fa_le, fa_eq, Int32.reduceToInt] at c_2
      refine lv_null hx hb dX8_lawNamed_19 ?_
      refine W.widen (k := 0) (n := 0) (Nat.le_of_ble_eq_true rfl) (Nat.le_of_ble_eq_true rfl) ?_
      exact W.aret (v := .null) hx hb hr (.inl ⟨_, rfl⟩) (.inl rfl) (fun t ht hW => ⟨none, rfl, rfl, ht⟩) (fun q h => nomatch h) dX8_lawNamed_20
    · skip
      simp only [fa_lt, fa_le, fa_eq, Int32.reduceToInt] at c_2
      refine lv_aload_n hx hb dX8_lawNamed_10 rfl (lv_at hl 0 rfl) ?_
      refine va_get (D := D) (ci := 8) (v := .ref (h 4)) (C := RX8) (T := TX8) (N := 11) hx hb ht zinX8 hown hK hP 0 rfl rfl 3 (by decide) (ht _ zw_189) (fun _ h9 => h9) rfl dX8_lawNamed_11 ?_
      refine lv_iload_n hx hb dX8_lawNamed_14 rfl (lv_at hl 1 rfl) ?_
      refine va_aldq hx hb hK hP 1 0 rfl rfl (vp_in_iff.mpr ⟨by omega, by omega⟩) dX8_lawNamed_15 ?_
      refine W.eq (g2 := F0 m 16 ls (.null :: [])) rfl ?_
      refine lv_goto (tgt := 20) hx hb dX8_lawNamed_16 (by decide) ?_
      refine W.widen (k := 0) (n := 0) (Nat.le_of_ble_eq_true rfl) (Nat.le_of_ble_eq_true rfl) ?_
      exact W.aret (v := .null) hx hb hr (.inl ⟨_, rfl⟩) (.inl rfl) (fun t ht hW => ⟨none, rfl, rfl, ht⟩) (fun q h => nomatch h) dX8_lawNamed_20
set_option maxHeartbeats 4000000 in
set_option maxRecDepth 100000 in
theorem k_X8_equivalenceNamed (l : Launch) (D : va_G) (h cs : Nat → Nat) (k : Int32) : Met l yX8_equivalenceNamed (.code yX8_equivalenceNamed cX8_equivalenceNamed 3 (some (.object "Chainwork$Equivalence")) :: zT) ({ frames := 0, cells := 0, slots := 0, locals := 0 }) (va_Pc [.ref (h 1), .int k] (zR D [((h 1), .inr (8, [.ref (h 2), .int 0, .ref (h 3), .ref (h 4), .int 0, .ref (h 5), .int 0, .ref (h 6), .int 0, .ref (h 7), .int 0]))] [])) (va_Sq (fun r => r = none)) 0 0 (fun _ => False) := by
  refine Met.ofW (cc := cX8_equivalenceNamed) (maxL := 3) (ret := (some (.object "Chainwork$Equivalence"))) (by decide) rfl ?_
  intro p e s m args below meth c s₁ B hml hv
  obtain ⟨rfl, hP, hK⟩ := hv
  have hx := B.exec
  have hb := B.bytes
  have hr := B.returns
  have hts := atoms_spec (ws := (.code yX8_equivalenceNamed cX8_equivalenceNamed 3 (some (.object "Chainwork$Equivalence")) :: zT)) B.pre
  have ht : ∀ w ∈ zT, w.before _ s = true := fun w h => hts w (List.mem_cons_of_mem _ h)
  have hown : s.vm.findClass RX8 = some m.cls := findClass_of_methodNamed B.named
  have hlocks := B.notSynchronized
  have hl := lv_entry ([.ref (h 1), .int k]) (n := 3) (Nat.le_of_ble_eq_true rfl)
  rw [lg_entry_eq]
  generalize (lg_sl ([.ref (h 1), .int k]) ++ List.replicate (3 - (lg_sl ([.ref (h 1), .int k])).length) Slot.unset).toArray = ls at hl ⊢
  have hl : lv_has ls 3 [(0, .ref (h 1)), (1, .int k)] := hl
  skip
  refine lv_iconst (v := 0) hx hb dX8_equivalenceNamed_0 (by decide) ?_
  refine lv_istore_n (lv' := [(2, .int 0), (0, .ref (h 1)), (1, .int k)]) hx hb dX8_equivalenceNamed_1 rfl hl (by decide) rfl (fun ls hl => ?_)
  refine lv_iload_n hx hb dX8_equivalenceNamed_2 rfl (lv_at hl 0 rfl) ?_
  refine lv_aload_n hx hb dX8_equivalenceNamed_3 rfl (lv_at hl 1 rfl) ?_
  refine va_get (D := D) (ci := 8) (v := .int 0) (C := RX8) (T := TX8) (N := 11) hx hb ht zinX8 hown hK hP 0 rfl rfl 6 (by decide) (ht _ zw_194) (fun _ h9 => h9) rfl dX8_equivalenceNamed_4 ?_
  refine lv_icmp_ge (tgt := 36) hx hb dX8_equivalenceNamed_7 (by decide) (fun c_1 => ?_) (fun c_1 => ?_)
  · skip
    refine lv_null hx hb dX8_equivalenceNamed_36 ?_
    refine W.widen (k := 0) (n := 0) (Nat.le_of_ble_eq_true rfl) (Nat.le_of_ble_eq_true rfl) ?_
    exact W.aret (v := .null) hx hb hr (.inl ⟨_, rfl⟩) (.inl rfl) (fun t ht hW => ⟨none, rfl, rfl, ht⟩) (fun q h => nomatch h) dX8_equivalenceNamed_37
  · skip
    exact absurd c_1 (by decide)
set_option maxHeartbeats 4000000 in
set_option maxRecDepth 100000 in
theorem k_X8_allOpen (l : Launch) (D : va_G) (h cs : Nat → Nat) : Met l yX8_allOpen (.code yX8_allOpen cX8_allOpen 1 (some .int) :: zT) ({ frames := 0, cells := 0, slots := 0, locals := 0 }) (va_Pc [.ref (h 1)] (zR D [((h 1), .inr (8, [.ref (h 2), .int 0, .ref (h 3), .ref (h 4), .int 0, .ref (h 5), .int 0, .ref (h 6), .int 0, .ref (h 7), .int 0]))] [])) (vp_Si (fun r => r = 0)) 0 0 (fun _ => False) := by
  refine Met.ofW (cc := cX8_allOpen) (maxL := 1) (ret := (some .int)) (by decide) rfl ?_
  intro p e s m args below meth c s₁ B hml hv
  obtain ⟨rfl, hP, hK⟩ := hv
  have hx := B.exec
  have hb := B.bytes
  have hr := B.returns
  have hts := atoms_spec (ws := (.code yX8_allOpen cX8_allOpen 1 (some .int) :: zT)) B.pre
  have ht : ∀ w ∈ zT, w.before _ s = true := fun w h => hts w (List.mem_cons_of_mem _ h)
  have hown : s.vm.findClass RX8 = some m.cls := findClass_of_methodNamed B.named
  have hlocks := B.notSynchronized
  have hl := lv_entry ([.ref (h 1)]) (n := 1) (Nat.le_of_ble_eq_true rfl)
  rw [lg_entry_eq]
  generalize (lg_sl ([.ref (h 1)]) ++ List.replicate (1 - (lg_sl ([.ref (h 1)])).length) Slot.unset).toArray = ls at hl ⊢
  have hl : lv_has ls 1 [(0, .ref (h 1))] := hl
  skip
  refine lv_iconst (v := 1) hx hb dX8_allOpen_0 (by decide) ?_
  refine lv_aload_n hx hb dX8_allOpen_1 rfl (lv_at hl 0 rfl) ?_
  refine va_get (D := D) (ci := 8) (v := .int 0) (C := RX8) (T := TX8) (N := 11) hx hb ht zinX8 hown hK hP 0 rfl rfl 8 (by decide) (ht _ zw_196) (fun _ h9 => h9) rfl dX8_allOpen_2 ?_
  refine lv_ishl hx hb dX8_allOpen_5 ?_
  refine lv_topi (fun x_1 e_1 => ?_)
  obtain rfl : x_1 = 1 := e_1.trans (by decide)
  refine lv_iconst (v := 1) hx hb dX8_allOpen_6 (by decide) ?_
  refine lv_isub hx hb dX8_allOpen_7 ?_
  refine lv_topi (fun x_2 e_2 => ?_)
  obtain rfl : x_2 = 0 := e_2.trans (by decide)
  refine W.widen (k := 0) (n := 0) (Nat.le_of_ble_eq_true rfl) (Nat.le_of_ble_eq_true rfl) ?_
  exact W.iret (v := 0) hx hb hr (fun t ht hW => ⟨0, rfl, rfl, ht⟩) (fun q h => nomatch h) dX8_allOpen_8
set_option maxHeartbeats 4000000 in
set_option maxRecDepth 100000 in
theorem k_X8_lawOrAssumption (l : Launch) (D : va_G) (h cs : Nat → Nat) (k n : Int32) : Met l yX8_lawOrAssumption (.code yX8_lawOrAssumption cX8_lawOrAssumption 4 (some (.object "Chainwork$Law")) :: zT) ({ frames := 1, cells := 0, slots := 0, locals := 21 }) (va_Pc [.ref (h 1), .int k, .int n] (zR D [((h 1), .inr (8, [.ref (h 2), .int 0, .ref (h 3), .ref (h 4), .int 0, .ref (h 5), .int 0, .ref (h 6), .int 0, .ref (h 7), .int 0])), ((h 4), .inl ((cs 4), 100, .inr (.inr (.inr (.inr (fun _ => none))))))] [((cs 4), .object RX4)])) (va_Sq (fun r => r = none)) 0 0 (fun _ => False) := by
  refine Met.ofW (cc := cX8_lawOrAssumption) (maxL := 4) (ret := (some (.object "Chainwork$Law"))) (by decide) rfl ?_
  intro p e s m args below meth c s₁ B hml hv
  obtain ⟨rfl, hP, hK⟩ := hv
  have hx := B.exec
  have hb := B.bytes
  have hr := B.returns
  have hts := atoms_spec (ws := (.code yX8_lawOrAssumption cX8_lawOrAssumption 4 (some (.object "Chainwork$Law")) :: zT)) B.pre
  have ht : ∀ w ∈ zT, w.before _ s = true := fun w h => hts w (List.mem_cons_of_mem _ h)
  have hown : s.vm.findClass RX8 = some m.cls := findClass_of_methodNamed B.named
  have hlocks := B.notSynchronized
  have hl := lv_entry ([.ref (h 1), .int k, .int n]) (n := 4) (Nat.le_of_ble_eq_true rfl)
  rw [lg_entry_eq]
  generalize (lg_sl ([.ref (h 1), .int k, .int n]) ++ List.replicate (4 - (lg_sl ([.ref (h 1), .int k, .int n])).length) Slot.unset).toArray = ls at hl ⊢
  have hl : lv_has ls 4 [(0, .ref (h 1)), (1, .int k), (2, .int n)] := hl
  skip
  refine lv_iload_n hx hb dX8_lawOrAssumption_0 rfl (lv_at hl 1 rfl) ?_
  refine lv_bipush (v := 100) hx hb dX8_lawOrAssumption_1 (by decide) ?_
  refine lv_isub hx hb dX8_lawOrAssumption_3 ?_
  refine lv_topi (fun x_1 e_1 => ?_)
  refine lv_istore_n (lv' := [(3, .int x_1), (0, .ref (h 1)), (1, .int k), (2, .int n)]) hx hb dX8_lawOrAssumption_4 rfl hl (by decide) rfl (fun ls hl => ?_)
  refine lv_iload_n hx hb dX8_lawOrAssumption_5 rfl (lv_at hl 0 rfl) ?_
  refine lv_if_lt (tgt := 17) hx hb dX8_lawOrAssumption_6 (by decide) (fun c_2 => ?_) (fun c_2 => ?_)
  · skip
    simp only [fa_lt, fa_le, fa_eq, Int32.reduceToInt] at c_2
    refine lv_aload_n hx hb dX8_lawOrAssumption_17 rfl (lv_at hl 1 rfl) ?_
    refine lv_iload_n hx hb dX8_lawOrAssumption_18 rfl (lv_at hl 2 rfl) ?_
    refine va_csq (va_runV (As := [.int k]) (rest := []) ⟨hx, hb, hml, hown, ht⟩ (k_X8_lawNamed l D h cs k) (cwV 1 ht (zG_V zw_394 zw_395 zw_396 zw_334 zw_397) rfl rfl rfl (by decide +kernel) ⟨Nat.le_of_ble_eq_true rfl, Nat.le_of_ble_eq_true rfl⟩) (zR_V (va_recv hK hP (ci := 8) (q0 := 0) rfl rfl) hP hK) rfl rfl hl.1 rfl (lv_room (Nat.le_of_ble_eq_true rfl)) dX8_lawOrAssumption_19 ⟨Nat.le_of_ble_eq_true rfl, Nat.le_of_ble_eq_true rfl⟩).run (fun r_3 hw_3 => ?_)
    obtain rfl := hw_3
    refine W.eq (g2 := F0 m 22 ls (.null :: [])) rfl ?_
    refine W.widen (k := 0) (n := 0) (Nat.le_of_ble_eq_true rfl) (Nat.le_of_ble_eq_true rfl) ?_
    exact W.aret (v := .null) hx hb hr (.inl ⟨_, rfl⟩) (.inl rfl) (fun t ht hW => ⟨none, rfl, rfl, ht⟩) (fun q h => nomatch h) dX8_lawOrAssumption_22
  · skip
    simp only [fa_lt, fa_le, fa_eq, Int32.reduceToInt] at c_2
    refine lv_iload_n hx hb dX8_lawOrAssumption_9 rfl (lv_at hl 0 rfl) ?_
    refine lv_aload_n hx hb dX8_lawOrAssumption_10 rfl (lv_at hl 1 rfl) ?_
    refine va_get (D := D) (ci := 8) (v := .int 0) (C := RX8) (T := TX8) (N := 11) hx hb ht zinX8 hown hK hP 0 rfl rfl 8 (by decide) (ht _ zw_196) (fun _ h9 => h9) rfl dX8_lawOrAssumption_11 ?_
    refine lv_icmp_lt (tgt := 23) hx hb dX8_lawOrAssumption_14 (by decide) (fun c_4 => ?_) (fun c_4 => ?_)
    · skip
      simp only [fa_lt, fa_le, fa_eq, Int32.reduceToInt] at c_4
      exfalso; omega
    · skip
      simp only [fa_lt, fa_le, fa_eq, Int32.reduceToInt] at c_4
      refine lv_aload_n hx hb dX8_lawOrAssumption_17 rfl (lv_at hl 1 rfl) ?_
      refine lv_iload_n hx hb dX8_lawOrAssumption_18 rfl (lv_at hl 2 rfl) ?_
      refine va_csq (va_runV (As := [.int k]) (rest := []) ⟨hx, hb, hml, hown, ht⟩ (k_X8_lawNamed l D h cs k) (cwV 1 ht (zG_V zw_394 zw_395 zw_396 zw_334 zw_397) rfl rfl rfl (by decide +kernel) ⟨Nat.le_of_ble_eq_true rfl, Nat.le_of_ble_eq_true rfl⟩) (zR_V (va_recv hK hP (ci := 8) (q0 := 0) rfl rfl) hP hK) rfl rfl hl.1 rfl (lv_room (Nat.le_of_ble_eq_true rfl)) dX8_lawOrAssumption_19 ⟨Nat.le_of_ble_eq_true rfl, Nat.le_of_ble_eq_true rfl⟩).run (fun r_5 hw_5 => ?_)
      obtain rfl := hw_5
      refine W.eq (g2 := F0 m 22 ls (.null :: [])) rfl ?_
      refine W.widen (k := 0) (n := 0) (Nat.le_of_ble_eq_true rfl) (Nat.le_of_ble_eq_true rfl) ?_
      exact W.aret (v := .null) hx hb hr (.inl ⟨_, rfl⟩) (.inl rfl) (fun t ht hW => ⟨none, rfl, rfl, ht⟩) (fun q h => nomatch h) dX8_lawOrAssumption_22
set_option maxHeartbeats 4000000 in
set_option maxRecDepth 100000 in
theorem k_X11_lawThere (l : Launch) (hl0 : l.stackTraces = false) (sz : Nat) (D : va_G) (h cs : Nat → Nat) (k : Int32) : vx_Met l yX11_lawThere (.code yX11_lawThere cX11_lawThere 3 (some (.object "Chainwork$Law")) :: zT) ({ frames := 6, cells := 1, slots := 6, locals := 90 }) (va_Pc [.ref (h 0), .int k] (zW D [((h 0), .inr (11, [.ref (h 1), .ref (h 9), .int 0, .int 0, .ref (h 20), .ref (h 37), .int 0, .ref (h 38), .ref (h 42), .ref (h 43), .ref (h 44), .ref (h 45), .ref (h 46), .ref (h 47), .ref (h 48)])), ((h 1), .inr (8, [.ref (h 2), .int 0, .ref (h 3), .ref (h 4), .int 0, .ref (h 5), .int 0, .ref (h 6), .int 0, .ref (h 7), .int 0])), ((h 4), .inl ((cs 4), 100, .inr (.inr (.inr (.inr (fun _ => none))))))] [((cs 4), .object RX4)] sz)) (va_Qq (fun (_ : Option Nat) (_ : Unit) => False) (fun _ t => zE D [] [] (va_A [((h 0), .inr (11, [.ref (h 1), .ref (h 9), .int 0, .int 0, .ref (h 20), .ref (h 37), .int 0, .ref (h 38), .ref (h 42), .ref (h 43), .ref (h 44), .ref (h 45), .ref (h 46), .ref (h 47), .ref (h 48)])), ((h 1), .inr (8, [.ref (h 2), .int 0, .ref (h 3), .ref (h 4), .int 0, .ref (h 5), .int 0, .ref (h 6), .int 0, .ref (h 7), .int 0])), ((h 4), .inl ((cs 4), 100, .inr (.inr (.inr (.inr (fun _ => none))))))] sz) t) (va_A [((h 0), .inr (11, [.ref (h 1), .ref (h 9), .int 0, .int 0, .ref (h 20), .ref (h 37), .int 0, .ref (h 38), .ref (h 42), .ref (h 43), .ref (h 44), .ref (h 45), .ref (h 46), .ref (h 47), .ref (h 48)])), ((h 1), .inr (8, [.ref (h 2), .int 0, .ref (h 3), .ref (h 4), .int 0, .ref (h 5), .int 0, .ref (h 6), .int 0, .ref (h 7), .int 0])), ((h 4), .inl ((cs 4), 100, .inr (.inr (.inr (.inr (fun _ => none))))))] sz)) (vx_X (fun _ : Unit => True) (fun E _ _ => E = "java/util/NoSuchElementException" ∧ True) (va_A [((h 0), .inr (11, [.ref (h 1), .ref (h 9), .int 0, .int 0, .ref (h 20), .ref (h 37), .int 0, .ref (h 38), .ref (h 42), .ref (h 43), .ref (h 44), .ref (h 45), .ref (h 46), .ref (h 47), .ref (h 48)])), ((h 1), .inr (8, [.ref (h 2), .int 0, .ref (h 3), .ref (h 4), .int 0, .ref (h 5), .int 0, .ref (h 6), .int 0, .ref (h 7), .int 0])), ((h 4), .inl ((cs 4), 100, .inr (.inr (.inr (.inr (fun _ => none))))))] sz)) 1 6 (va_A [((h 0), .inr (11, [.ref (h 1), .ref (h 9), .int 0, .int 0, .ref (h 20), .ref (h 37), .int 0, .ref (h 38), .ref (h 42), .ref (h 43), .ref (h 44), .ref (h 45), .ref (h 46), .ref (h 47), .ref (h 48)])), ((h 1), .inr (8, [.ref (h 2), .int 0, .ref (h 3), .ref (h 4), .int 0, .ref (h 5), .int 0, .ref (h 6), .int 0, .ref (h 7), .int 0])), ((h 4), .inl ((cs 4), 100, .inr (.inr (.inr (.inr (fun _ => none))))))] sz) := by
  refine vx_ofW (cc := cX11_lawThere) (maxL := 3) (ret := (some (.object "Chainwork$Law"))) (by decide) rfl ?_
  intro p e s m args below meth c s₁ B hml hexc hv
  obtain ⟨rfl, hEx, hsz, hP, hK, hD0⟩ := hv
  have hx := B.exec
  have hb := B.bytes
  have hr := B.returns
  have hts := atoms_spec (ws := (.code yX11_lawThere cX11_lawThere 3 (some (.object "Chainwork$Law")) :: zT)) B.pre
  have ht : ∀ w ∈ zT, w.before _ s = true := fun w h => hts w (List.mem_cons_of_mem _ h)
  have hown : s.vm.findClass RX11 = some m.cls := findClass_of_methodNamed B.named
  have hlocks := B.notSynchronized
  subst hsz
  have hD := hD0.self (sz := s.heap.size)
  generalize hAe : va_A [((h 0), .inr (11, [.ref (h 1), .ref (h 9), .int 0, .int 0, .ref (h 20), .ref (h 37), .int 0, .ref (h 38), .ref (h 42), .ref (h 43), .ref (h 44), .ref (h 45), .ref (h 46), .ref (h 47), .ref (h 48)])), ((h 1), .inr (8, [.ref (h 2), .int 0, .ref (h 3), .ref (h 4), .int 0, .ref (h 5), .int 0, .ref (h 6), .int 0, .ref (h 7), .int 0])), ((h 4), .inl ((cs 4), 100, .inr (.inr (.inr (.inr (fun _ => none))))))] s.heap.size = A at hD hEx ⊢
  have hA : ∀ q : Nat, s.heap.size ≤ q → A q := fun q h => by rw [← hAe]; exact Or.inr h
  have hS : va_S A s.heap s.heap [] := va_S.rf
  have hP : va_P D vwCl [((h 0), .inr (11, [.ref (h 1), .ref (h 9), .int 0, .int 0, .ref (h 20), .ref (h 37), .int 0, .ref (h 38), .ref (h 42), .ref (h 43), .ref (h 44), .ref (h 45), .ref (h 46), .ref (h 47), .ref (h 48)])), ((h 1), .inr (8, [.ref (h 2), .int 0, .ref (h 3), .ref (h 4), .int 0, .ref (h 5), .int 0, .ref (h 6), .int 0, .ref (h 7), .int 0])), ((h 4), .inl ((cs 4), 100, .inr (.inr (.inr (.inr (fun _ => none))))))] s.heap := hP
  have hl := lv_entry ([.ref (h 0), .int k]) (n := 3) (Nat.le_of_ble_eq_true rfl)
  rw [lg_entry_eq]
  generalize (lg_sl ([.ref (h 0), .int k]) ++ List.replicate (3 - (lg_sl ([.ref (h 0), .int k])).length) Slot.unset).toArray = ls at hl ⊢
  have hl : lv_has ls 3 [(0, .ref (h 0)), (1, .int k)] := hl
  skip
  refine lv_aload_n hx hb dX11_lawThere_0 rfl (lv_at hl 0 rfl) ?_
  refine va_get (D := D) (ci := 11) (v := .ref (h 1)) (C := RX11) (T := TX11) (N := 15) hx hb ht zinX11 hown hK hP 0 rfl rfl 0 (by decide) (ht _ zw_353) (fun _ h9 => h9) rfl dX11_lawThere_1 ?_
  refine lv_iload_n hx hb dX11_lawThere_4 rfl (lv_at hl 1 rfl) ?_
  refine va_csq (va_runV (As := [.int k]) (rest := []) ⟨hx, hb, hml, hown, ht⟩ (k_X8_lawNamed l D h cs k) (cwV 1 ht (zG_V zw_398 zw_395 zw_396 zw_334 zw_397) rfl rfl rfl (by decide +kernel) ⟨Nat.le_of_ble_eq_true rfl, Nat.le_of_ble_eq_true rfl⟩) (zR_V (va_recv hK hP (ci := 8) (q0 := 1) rfl rfl) (hP.sub (ws' := [((h 1), .inr (8, [.ref (h 2), .int 0, .ref (h 3), .ref (h 4), .int 0, .ref (h 5), .int 0, .ref (h 6), .int 0, .ref (h 7), .int 0])), ((h 4), .inl ((cs 4), 100, .inr (.inr (.inr (.inr (fun _ => none))))))]) [1, 2] rfl) hK) rfl rfl hl.1 rfl (lv_room (Nat.le_of_ble_eq_true rfl)) dX11_lawThere_5 ⟨Nat.le_of_ble_eq_true rfl, Nat.le_of_ble_eq_true rfl⟩).run (fun r_1 hw_1 => ?_)
  obtain rfl := hw_1
  refine W.eq (g2 := F0 m 8 ls (.null :: [])) rfl ?_
  refine lv_astore_nN (lv' := [(2, .null), (0, .ref (h 0)), (1, .int k)]) hx hb dX11_lawThere_8 rfl hl (by decide) rfl (fun ls hl => ?_)
  refine lv_aload_nN hx hb dX11_lawThere_9 rfl (lv_at hl 0 rfl) ?_
  refine lv_ifnonnullN hx hb dX11_lawThere_10 ?_
  exact zthrow (k := 3) (names := ["java/lang/RuntimeException", "java/lang/Exception"]) (ix := 13) (rx := zThirteen) (text := "there is no such law") (is := 510) hx hb hl0 (by decide) (by decide) (by decide +kernel) (by decide +kernel) (by decide +kernel) (by decide +kernel) zw_399 zw_400 zAt_NSEE zOt_NSEE (by decide +kernel) (by decide +kernel) hown ht hEx hS (hl.1.trans hml.symm) dX11_lawThere_13 dX11_lawThere_16 (.inr ⟨dX11_lawThere_17, rfl⟩) dX11_lawThere_20 dX11_lawThere_23 hexc (Nat.le_of_ble_eq_true rfl) (Nat.le_of_ble_eq_true rfl) (Nat.le_of_ble_eq_true rfl) (Nat.le_of_ble_eq_true rfl) hlocks (fun t hvm hF => ⟨(), trivial, ⟨rfl, trivial⟩, hF⟩) hS.2.2 (Nat.le_of_ble_eq_true rfl) (Nat.le_of_ble_eq_true rfl)
set_option maxHeartbeats 4000000 in
set_option maxRecDepth 100000 in
theorem k_X11_latestAssumption (l : Launch) (hl0 : l.stackTraces = false) (sz : Nat) (D : va_G) (h cs : Nat → Nat) : vx_Met l yX11_latestAssumption (.code yX11_latestAssumption cX11_latestAssumption 1 (some (.object "Chainwork$Law")) :: zT) ({ frames := 6, cells := 1, slots := 6, locals := 90 }) (va_Pc [.ref (h 0)] (zW D [((h 0), .inr (11, [.ref (h 1), .ref (h 9), .int 0, .int 0, .ref (h 20), .ref (h 37), .int 0, .ref (h 38), .ref (h 42), .ref (h 43), .ref (h 44), .ref (h 45), .ref (h 46), .ref (h 47), .ref (h 48)])), ((h 1), .inr (8, [.ref (h 2), .int 0, .ref (h 3), .ref (h 4), .int 0, .ref (h 5), .int 0, .ref (h 6), .int 0, .ref (h 7), .int 0]))] [] sz)) (va_Qq (fun (_ : Option Nat) (_ : Unit) => False) (fun _ t => zE D [] [] (va_A [((h 0), .inr (11, [.ref (h 1), .ref (h 9), .int 0, .int 0, .ref (h 20), .ref (h 37), .int 0, .ref (h 38), .ref (h 42), .ref (h 43), .ref (h 44), .ref (h 45), .ref (h 46), .ref (h 47), .ref (h 48)])), ((h 1), .inr (8, [.ref (h 2), .int 0, .ref (h 3), .ref (h 4), .int 0, .ref (h 5), .int 0, .ref (h 6), .int 0, .ref (h 7), .int 0]))] sz) t) (va_A [((h 0), .inr (11, [.ref (h 1), .ref (h 9), .int 0, .int 0, .ref (h 20), .ref (h 37), .int 0, .ref (h 38), .ref (h 42), .ref (h 43), .ref (h 44), .ref (h 45), .ref (h 46), .ref (h 47), .ref (h 48)])), ((h 1), .inr (8, [.ref (h 2), .int 0, .ref (h 3), .ref (h 4), .int 0, .ref (h 5), .int 0, .ref (h 6), .int 0, .ref (h 7), .int 0]))] sz)) (vx_X (fun _ : Unit => True) (fun E _ _ => E = "java/util/NoSuchElementException" ∧ True) (va_A [((h 0), .inr (11, [.ref (h 1), .ref (h 9), .int 0, .int 0, .ref (h 20), .ref (h 37), .int 0, .ref (h 38), .ref (h 42), .ref (h 43), .ref (h 44), .ref (h 45), .ref (h 46), .ref (h 47), .ref (h 48)])), ((h 1), .inr (8, [.ref (h 2), .int 0, .ref (h 3), .ref (h 4), .int 0, .ref (h 5), .int 0, .ref (h 6), .int 0, .ref (h 7), .int 0]))] sz)) 1 6 (va_A [((h 0), .inr (11, [.ref (h 1), .ref (h 9), .int 0, .int 0, .ref (h 20), .ref (h 37), .int 0, .ref (h 38), .ref (h 42), .ref (h 43), .ref (h 44), .ref (h 45), .ref (h 46), .ref (h 47), .ref (h 48)])), ((h 1), .inr (8, [.ref (h 2), .int 0, .ref (h 3), .ref (h 4), .int 0, .ref (h 5), .int 0, .ref (h 6), .int 0, .ref (h 7), .int 0]))] sz) := by
  refine vx_ofW (cc := cX11_latestAssumption) (maxL := 1) (ret := (some (.object "Chainwork$Law"))) (by decide) rfl ?_
  intro p e s m args below meth c s₁ B hml hexc hv
  obtain ⟨rfl, hEx, hsz, hP, hK, hD0⟩ := hv
  have hx := B.exec
  have hb := B.bytes
  have hr := B.returns
  have hts := atoms_spec (ws := (.code yX11_latestAssumption cX11_latestAssumption 1 (some (.object "Chainwork$Law")) :: zT)) B.pre
  have ht : ∀ w ∈ zT, w.before _ s = true := fun w h => hts w (List.mem_cons_of_mem _ h)
  have hown : s.vm.findClass RX11 = some m.cls := findClass_of_methodNamed B.named
  have hlocks := B.notSynchronized
  subst hsz
  have hD := hD0.self (sz := s.heap.size)
  generalize hAe : va_A [((h 0), .inr (11, [.ref (h 1), .ref (h 9), .int 0, .int 0, .ref (h 20), .ref (h 37), .int 0, .ref (h 38), .ref (h 42), .ref (h 43), .ref (h 44), .ref (h 45), .ref (h 46), .ref (h 47), .ref (h 48)])), ((h 1), .inr (8, [.ref (h 2), .int 0, .ref (h 3), .ref (h 4), .int 0, .ref (h 5), .int 0, .ref (h 6), .int 0, .ref (h 7), .int 0]))] s.heap.size = A at hD hEx ⊢
  have hA : ∀ q : Nat, s.heap.size ≤ q → A q := fun q h => by rw [← hAe]; exact Or.inr h
  have hS : va_S A s.heap s.heap [] := va_S.rf
  have hP : va_P D vwCl [((h 0), .inr (11, [.ref (h 1), .ref (h 9), .int 0, .int 0, .ref (h 20), .ref (h 37), .int 0, .ref (h 38), .ref (h 42), .ref (h 43), .ref (h 44), .ref (h 45), .ref (h 46), .ref (h 47), .ref (h 48)])), ((h 1), .inr (8, [.ref (h 2), .int 0, .ref (h 3), .ref (h 4), .int 0, .ref (h 5), .int 0, .ref (h 6), .int 0, .ref (h 7), .int 0]))] s.heap := hP
  have hl := lv_entry ([.ref (h 0)]) (n := 1) (Nat.le_of_ble_eq_true rfl)
  rw [lg_entry_eq]
  generalize (lg_sl ([.ref (h 0)]) ++ List.replicate (1 - (lg_sl ([.ref (h 0)])).length) Slot.unset).toArray = ls at hl ⊢
  have hl : lv_has ls 1 [(0, .ref (h 0))] := hl
  skip
  refine lv_aload_n hx hb dX11_latestAssumption_0 rfl (lv_at hl 0 rfl) ?_
  refine va_get (D := D) (ci := 11) (v := .ref (h 1)) (C := RX11) (T := TX11) (N := 15) hx hb ht zinX11 hown hK hP 0 rfl rfl 0 (by decide) (ht _ zw_353) (fun _ h9 => h9) rfl dX11_latestAssumption_1 ?_
  refine va_get (D := D) (ci := 8) (v := .int 0) (C := RX8) (T := TX8) (N := 11) hx hb ht zinX8 hown hK hP 1 rfl rfl 8 (by decide) (ht _ zw_401) (fun _ h9 => h9) rfl dX11_latestAssumption_4 ?_
  refine lv_if_ne (tgt := 21) hx hb dX11_latestAssumption_7 (by decide) (fun c_1 => ?_) (fun c_1 => ?_)
  · skip
    exact absurd c_1 (by decide)
  · skip
    exact zthrow (k := 3) (names := ["java/lang/RuntimeException", "java/lang/Exception"]) (ix := 13) (rx := zThirteen) (text := "no assumption is open") (is := 512) hx hb hl0 (by decide) (by decide) (by decide +kernel) (by decide +kernel) (by decide +kernel) (by decide +kernel) zw_399 zw_400 zAt_NSEE zOt_NSEE (by decide +kernel) (by decide +kernel) hown ht hEx hS (hl.1.trans hml.symm) dX11_latestAssumption_10 dX11_latestAssumption_13 (.inr ⟨dX11_latestAssumption_14, rfl⟩) dX11_latestAssumption_17 dX11_latestAssumption_20 hexc (Nat.le_of_ble_eq_true rfl) (Nat.le_of_ble_eq_true rfl) (Nat.le_of_ble_eq_true rfl) (Nat.le_of_ble_eq_true rfl) hlocks (fun t hvm hF => ⟨(), trivial, ⟨rfl, trivial⟩, hF⟩) hS.2.2 (Nat.le_of_ble_eq_true rfl) (Nat.le_of_ble_eq_true rfl)
set_option maxHeartbeats 4000000 in
set_option maxRecDepth 100000 in
theorem k_X11_part (l : Launch) (hl0 : l.stackTraces = false) (sz : Nat) (D : va_G) (h cs : Nat → Nat) (p0 p1 p2 : Int32) : vx_Met l yX11_part (.code yX11_part cX11_part 6 (some .int) :: zT) ({ frames := 7, cells := 3, slots := 18, locals := 112 }) (va_Pc [.ref (h 0), .int p0, .int p1, .int p2] (zW D [((h 0), .inr (11, [.ref (h 1), .ref (h 9), .int 0, .int 0, .ref (h 20), .ref (h 37), .int 0, .ref (h 38), .ref (h 42), .ref (h 43), .ref (h 44), .ref (h 45), .ref (h 46), .ref (h 47), .ref (h 48)])), ((h 1), .inr (8, [.ref (h 2), .int 0, .ref (h 3), .ref (h 4), .int 0, .ref (h 5), .int 0, .ref (h 6), .int 0, .ref (h 7), .int 0])), ((h 3), .inl ((cs 9), 10, .inr (.inr (.inr (.inr (fun _ => none))))))] [((cs 9), .object RX9)] sz)) (va_Qi (fun (r : Int32) (_ : Unit) => zS_part p0 p1 p2 0 r) (fun _ t => zE D [] [] (va_A [((h 0), .inr (11, [.ref (h 1), .ref (h 9), .int 0, .int 0, .ref (h 20), .ref (h 37), .int 0, .ref (h 38), .ref (h 42), .ref (h 43), .ref (h 44), .ref (h 45), .ref (h 46), .ref (h 47), .ref (h 48)])), ((h 1), .inr (8, [.ref (h 2), .int 0, .ref (h 3), .ref (h 4), .int 0, .ref (h 5), .int 0, .ref (h 6), .int 0, .ref (h 7), .int 0])), ((h 3), .inl ((cs 9), 10, .inr (.inr (.inr (.inr (fun _ => none))))))] sz) t) (va_A [((h 0), .inr (11, [.ref (h 1), .ref (h 9), .int 0, .int 0, .ref (h 20), .ref (h 37), .int 0, .ref (h 38), .ref (h 42), .ref (h 43), .ref (h 44), .ref (h 45), .ref (h 46), .ref (h 47), .ref (h 48)])), ((h 1), .inr (8, [.ref (h 2), .int 0, .ref (h 3), .ref (h 4), .int 0, .ref (h 5), .int 0, .ref (h 6), .int 0, .ref (h 7), .int 0])), ((h 3), .inl ((cs 9), 10, .inr (.inr (.inr (.inr (fun _ => none))))))] sz)) (vx_X (fun _ : Unit => True) (fun E _ _ => (E = "java/lang/IndexOutOfBoundsException" ∧ zS_part p0 p1 p2 1 0) ∨ (E = "java/lang/IllegalStateException" ∧ zS_part p0 p1 p2 2 0)) (va_A [((h 0), .inr (11, [.ref (h 1), .ref (h 9), .int 0, .int 0, .ref (h 20), .ref (h 37), .int 0, .ref (h 38), .ref (h 42), .ref (h 43), .ref (h 44), .ref (h 45), .ref (h 46), .ref (h 47), .ref (h 48)])), ((h 1), .inr (8, [.ref (h 2), .int 0, .ref (h 3), .ref (h 4), .int 0, .ref (h 5), .int 0, .ref (h 6), .int 0, .ref (h 7), .int 0])), ((h 3), .inl ((cs 9), 10, .inr (.inr (.inr (.inr (fun _ => none))))))] sz)) 3 18 (va_A [((h 0), .inr (11, [.ref (h 1), .ref (h 9), .int 0, .int 0, .ref (h 20), .ref (h 37), .int 0, .ref (h 38), .ref (h 42), .ref (h 43), .ref (h 44), .ref (h 45), .ref (h 46), .ref (h 47), .ref (h 48)])), ((h 1), .inr (8, [.ref (h 2), .int 0, .ref (h 3), .ref (h 4), .int 0, .ref (h 5), .int 0, .ref (h 6), .int 0, .ref (h 7), .int 0])), ((h 3), .inl ((cs 9), 10, .inr (.inr (.inr (.inr (fun _ => none))))))] sz) := by
  refine vx_ofW (cc := cX11_part) (maxL := 6) (ret := (some .int)) (by decide) rfl ?_
  intro p e s m args below meth c s₁ B hml hexc hv
  obtain ⟨rfl, hEx, hsz, hP, hK, hD0⟩ := hv
  have hx := B.exec
  have hb := B.bytes
  have hr := B.returns
  have hts := atoms_spec (ws := (.code yX11_part cX11_part 6 (some .int) :: zT)) B.pre
  have ht : ∀ w ∈ zT, w.before _ s = true := fun w h => hts w (List.mem_cons_of_mem _ h)
  have hown : s.vm.findClass RX11 = some m.cls := findClass_of_methodNamed B.named
  have hlocks := B.notSynchronized
  subst hsz
  have hD := hD0.self (sz := s.heap.size)
  generalize hAe : va_A [((h 0), .inr (11, [.ref (h 1), .ref (h 9), .int 0, .int 0, .ref (h 20), .ref (h 37), .int 0, .ref (h 38), .ref (h 42), .ref (h 43), .ref (h 44), .ref (h 45), .ref (h 46), .ref (h 47), .ref (h 48)])), ((h 1), .inr (8, [.ref (h 2), .int 0, .ref (h 3), .ref (h 4), .int 0, .ref (h 5), .int 0, .ref (h 6), .int 0, .ref (h 7), .int 0])), ((h 3), .inl ((cs 9), 10, .inr (.inr (.inr (.inr (fun _ => none))))))] s.heap.size = A at hD hEx ⊢
  have hA : ∀ q : Nat, s.heap.size ≤ q → A q := fun q h => by rw [← hAe]; exact Or.inr h
  have hS : va_S A s.heap s.heap [] := va_S.rf
  have hP : va_P D vwCl [((h 0), .inr (11, [.ref (h 1), .ref (h 9), .int 0, .int 0, .ref (h 20), .ref (h 37), .int 0, .ref (h 38), .ref (h 42), .ref (h 43), .ref (h 44), .ref (h 45), .ref (h 46), .ref (h 47), .ref (h 48)])), ((h 1), .inr (8, [.ref (h 2), .int 0, .ref (h 3), .ref (h 4), .int 0, .ref (h 5), .int 0, .ref (h 6), .int 0, .ref (h 7), .int 0])), ((h 3), .inl ((cs 9), 10, .inr (.inr (.inr (.inr (fun _ => none))))))] s.heap := hP
  have hl := lv_entry ([.ref (h 0), .int p0, .int p1, .int p2]) (n := 6) (Nat.le_of_ble_eq_true rfl)
  rw [lg_entry_eq]
  generalize (lg_sl ([.ref (h 0), .int p0, .int p1, .int p2]) ++ List.replicate (6 - (lg_sl ([.ref (h 0), .int p0, .int p1, .int p2])).length) Slot.unset).toArray = ls at hl ⊢
  have hl : lv_has ls 6 [(0, .ref (h 0)), (1, .int p0), (2, .int p1), (3, .int p2)] := hl
  skip
  refine lv_iload_n hx hb dX11_part_0 rfl (lv_at hl 1 rfl) ?_
  refine lv_bipush (v := 10) hx hb dX11_part_1 (by decide) ?_
  have hPc := hP.sub (ws' := []) [] rfl
  have hDc := hD.sub (ws' := []) [] (by decide) rfl
  have hKc := hK.sub (tys' := []) [] rfl
  have hFc := va_free (wc := []) hD hS hA [] rfl
  refine vx_callv (vx_runS (As := [.int p0, .int 10]) (rest := []) ⟨hx, hb, hml, hown, ht⟩ (k_X11_checkIndex l hl0 _ D p0 10) (va_cwS 2 ht (zG_S zw_402 zw_403 zw_404 zw_405) rfl rfl rfl (by decide +kernel) ⟨Nat.le_of_ble_eq_true rfl, Nat.le_of_ble_eq_true rfl⟩) (zW_S hEx hS hFc hPc hKc hDc) rfl rfl hl.1 rfl (lv_room (Nat.le_of_ble_eq_true rfl)) dX11_part_3 ⟨Nat.le_of_ble_eq_true rfl, Nat.le_of_ble_eq_true rfl⟩) hS (fun q _ h => hFc q h) hFc (fun q _ h => hFc q h) (fun E ce q9 uu t H1 locs1 ht0 hvm hpx hB hz1 hk1 hS hcell hv hcl => ?_) (fun u_1 t H1 locs ht0 hvm hw_1 hB hz1 hk1 hS => ?_)
  · exact vx_out (fun x hx => (hexc x hx).elim) hlocks hcell hv hcl (fun t2 h2 hv2 => ⟨(), trivial, (by obtain ⟨hE, hb9⟩ := hB; (try simp only [Int32.reduceToInt] at hb9); exact .inl ⟨hE, (show zS_part p0 p1 p2 1 0 from (.inl ⟨rfl, by omega⟩))⟩), hS.F h2⟩) hS.2.2 (Nat.le_of_ble_eq_true rfl) (Nat.le_of_ble_eq_true rfl)
  obtain ⟨hP1, hK1, hD1⟩ := hB
  rw [ht0] at hP1
  have hK1 := va_K.moved hvm.symm hK1
  obtain ⟨hP, hD⟩ := va_join (wr := [((h 0), .inr (11, [.ref (h 1), .ref (h 9), .int 0, .int 0, .ref (h 20), .ref (h 37), .int 0, .ref (h 38), .ref (h 42), .ref (h 43), .ref (h 44), .ref (h 45), .ref (h 46), .ref (h 47), .ref (h 48)])), ((h 1), .inr (8, [.ref (h 2), .int 0, .ref (h 3), .ref (h 4), .int 0, .ref (h 5), .int 0, .ref (h 6), .int 0, .ref (h 7), .int 0])), ((h 3), .inl ((cs 9), 10, .inr (.inr (.inr (.inr (fun _ => none))))))]) (w1 := []) hP hD [] [0, 1, 2] rfl rfl (by decide) (by decide) hk1 hFc hP1 hD1
  generalize H1 = H at hP hS ⊢
  have hP : va_P D vwCl [((h 0), .inr (11, [.ref (h 1), .ref (h 9), .int 0, .int 0, .ref (h 20), .ref (h 37), .int 0, .ref (h 38), .ref (h 42), .ref (h 43), .ref (h 44), .ref (h 45), .ref (h 46), .ref (h 47), .ref (h 48)])), ((h 1), .inr (8, [.ref (h 2), .int 0, .ref (h 3), .ref (h 4), .int 0, .ref (h 5), .int 0, .ref (h 6), .int 0, .ref (h 7), .int 0])), ((h 3), .inl ((cs 9), 10, .inr (.inr (.inr (.inr (fun _ => none))))))] H := hP
  have hD : va_D A [((h 0), .inr (11, [.ref (h 1), .ref (h 9), .int 0, .int 0, .ref (h 20), .ref (h 37), .int 0, .ref (h 38), .ref (h 42), .ref (h 43), .ref (h 44), .ref (h 45), .ref (h 46), .ref (h 47), .ref (h 48)])), ((h 1), .inr (8, [.ref (h 2), .int 0, .ref (h 3), .ref (h 4), .int 0, .ref (h 5), .int 0, .ref (h 6), .int 0, .ref (h 7), .int 0])), ((h 3), .inl ((cs 9), 10, .inr (.inr (.inr (.inr (fun _ => none))))))] := hD
  refine W.widen (k := 1) (n := 6) (Nat.le_of_ble_eq_true rfl) (Nat.le_of_ble_eq_true rfl) ?_
  simp only [Int32.reduceToInt] at hw_1
  refine lv_iload_n hx hb dX11_part_6 rfl (lv_at hl 3 rfl) ?_
  refine lv_bipush (v := 10) hx hb dX11_part_7 (by decide) ?_
  have hPc := hP.sub (ws' := []) [] rfl
  have hDc := hD.sub (ws' := []) [] (by decide) rfl
  have hKc := hK.sub (tys' := []) [] rfl
  have hFc := va_free (wc := []) hD hS hA [] rfl
  refine vx_callv (vx_runS (As := [.int p2, .int 10]) (rest := []) ⟨hx, hb, hml, hown, ht⟩ (k_X11_checkIndex l hl0 _ D p2 10) (va_cwS 2 ht (zG_S zw_402 zw_403 zw_404 zw_405) rfl rfl rfl (by decide +kernel) ⟨Nat.le_of_ble_eq_true rfl, Nat.le_of_ble_eq_true rfl⟩) (zW_S hEx hS hFc hPc hKc hDc) rfl rfl hl.1 rfl (lv_room (Nat.le_of_ble_eq_true rfl)) dX11_part_9 ⟨Nat.le_of_ble_eq_true rfl, Nat.le_of_ble_eq_true rfl⟩) hS (fun q _ h => hFc q h) hFc (fun q _ h => hFc q h) (fun E ce q9 uu t H1 locs1 ht0 hvm hpx hB hz1 hk1 hS hcell hv hcl => ?_) (fun u_2 t H1 locs ht0 hvm hw_2 hB hz1 hk1 hS => ?_)
  · exact vx_out (fun x hx => (hexc x hx).elim) hlocks hcell hv hcl (fun t2 h2 hv2 => ⟨(), trivial, (by obtain ⟨hE, hb9⟩ := hB; (try simp only [Int32.reduceToInt] at hb9); exact .inl ⟨hE, (show zS_part p0 p1 p2 1 0 from (.inl ⟨rfl, by omega⟩))⟩), hS.F h2⟩) hS.2.2 (Nat.le_of_ble_eq_true rfl) (Nat.le_of_ble_eq_true rfl)
  obtain ⟨hP1, hK1, hD1⟩ := hB
  rw [ht0] at hP1
  have hK1 := va_K.moved hvm.symm hK1
  obtain ⟨hP, hD⟩ := va_join (wr := [((h 0), .inr (11, [.ref (h 1), .ref (h 9), .int 0, .int 0, .ref (h 20), .ref (h 37), .int 0, .ref (h 38), .ref (h 42), .ref (h 43), .ref (h 44), .ref (h 45), .ref (h 46), .ref (h 47), .ref (h 48)])), ((h 1), .inr (8, [.ref (h 2), .int 0, .ref (h 3), .ref (h 4), .int 0, .ref (h 5), .int 0, .ref (h 6), .int 0, .ref (h 7), .int 0])), ((h 3), .inl ((cs 9), 10, .inr (.inr (.inr (.inr (fun _ => none))))))]) (w1 := []) hP hD [] [0, 1, 2] rfl rfl (by decide) (by decide) hk1 hFc hP1 hD1
  generalize H1 = H at hP hS ⊢
  have hP : va_P D vwCl [((h 0), .inr (11, [.ref (h 1), .ref (h 9), .int 0, .int 0, .ref (h 20), .ref (h 37), .int 0, .ref (h 38), .ref (h 42), .ref (h 43), .ref (h 44), .ref (h 45), .ref (h 46), .ref (h 47), .ref (h 48)])), ((h 1), .inr (8, [.ref (h 2), .int 0, .ref (h 3), .ref (h 4), .int 0, .ref (h 5), .int 0, .ref (h 6), .int 0, .ref (h 7), .int 0])), ((h 3), .inl ((cs 9), 10, .inr (.inr (.inr (.inr (fun _ => none))))))] H := hP
  have hD : va_D A [((h 0), .inr (11, [.ref (h 1), .ref (h 9), .int 0, .int 0, .ref (h 20), .ref (h 37), .int 0, .ref (h 38), .ref (h 42), .ref (h 43), .ref (h 44), .ref (h 45), .ref (h 46), .ref (h 47), .ref (h 48)])), ((h 1), .inr (8, [.ref (h 2), .int 0, .ref (h 3), .ref (h 4), .int 0, .ref (h 5), .int 0, .ref (h 6), .int 0, .ref (h 7), .int 0])), ((h 3), .inl ((cs 9), 10, .inr (.inr (.inr (.inr (fun _ => none))))))] := hD
  refine W.widen (k := 2) (n := 12) (Nat.le_of_ble_eq_true rfl) (Nat.le_of_ble_eq_true rfl) ?_
  simp only [Int32.reduceToInt] at hw_2
  refine lv_aload_n hx hb dX11_part_12 rfl (lv_at hl 0 rfl) ?_
  refine lv_iload_n hx hb dX11_part_13 rfl (lv_at hl 1 rfl) ?_
  have hPc := hP.sub (ws' := [((h 0), .inr (11, [.ref (h 1), .ref (h 9), .int 0, .int 0, .ref (h 20), .ref (h 37), .int 0, .ref (h 38), .ref (h 42), .ref (h 43), .ref (h 44), .ref (h 45), .ref (h 46), .ref (h 47), .ref (h 48)])), ((h 1), .inr (8, [.ref (h 2), .int 0, .ref (h 3), .ref (h 4), .int 0, .ref (h 5), .int 0, .ref (h 6), .int 0, .ref (h 7), .int 0])), ((h 3), .inl ((cs 9), 10, .inr (.inr (.inr (.inr (fun _ => none))))))]) [0, 1, 2] rfl
  have hDc := hD.sub (ws' := [((h 0), .inr (11, [.ref (h 1), .ref (h 9), .int 0, .int 0, .ref (h 20), .ref (h 37), .int 0, .ref (h 38), .ref (h 42), .ref (h 43), .ref (h 44), .ref (h 45), .ref (h 46), .ref (h 47), .ref (h 48)])), ((h 1), .inr (8, [.ref (h 2), .int 0, .ref (h 3), .ref (h 4), .int 0, .ref (h 5), .int 0, .ref (h 6), .int 0, .ref (h 7), .int 0])), ((h 3), .inl ((cs 9), 10, .inr (.inr (.inr (.inr (fun _ => none))))))]) [0, 1, 2] (by decide) rfl
  have hKc := hK.sub (tys' := [((cs 9), .object RX9)]) [0] rfl
  have hFc := va_free (wc := [((h 0), .inr (11, [.ref (h 1), .ref (h 9), .int 0, .int 0, .ref (h 20), .ref (h 37), .int 0, .ref (h 38), .ref (h 42), .ref (h 43), .ref (h 44), .ref (h 45), .ref (h 46), .ref (h 47), .ref (h 48)])), ((h 1), .inr (8, [.ref (h 2), .int 0, .ref (h 3), .ref (h 4), .int 0, .ref (h 5), .int 0, .ref (h 6), .int 0, .ref (h 7), .int 0])), ((h 3), .inl ((cs 9), 10, .inr (.inr (.inr (.inr (fun _ => none))))))]) hD hS hA [0, 1, 2] rfl
  refine vx_callq (vx_runV (As := [.int p0]) (rest := []) ⟨hx, hb, hml, hown, ht⟩ (k_X11_filled l hl0 _ D h cs p0 hw_1) (cwV 1 ht (zG_V zw_406 zw_407 zw_408 zw_404 zw_409) rfl rfl rfl (by decide +kernel) ⟨Nat.le_of_ble_eq_true rfl, Nat.le_of_ble_eq_true rfl⟩) (zW_V (va_recv hK hP (ci := 11) (q0 := 0) rfl rfl) hEx hS hFc hPc hKc hDc) rfl rfl hl.1 rfl (lv_room (Nat.le_of_ble_eq_true rfl)) dX11_part_14 ⟨Nat.le_of_ble_eq_true rfl, Nat.le_of_ble_eq_true rfl⟩) hS (fun q _ h => hFc q h) hFc (fun q _ h => hFc q h) (fun E ce q9 uu t H1 locs1 ht0 hvm hpx hB hz1 hk1 hS hcell hv hcl => ?_) (fun r_3 u_3 t H1 locs ht0 hvm hw_3 hB hz1 hk1 hS => ?_)
  · exact vx_out (fun x hx => (hexc x hx).elim) hlocks hcell hv hcl (fun t2 h2 hv2 => ⟨(), trivial, (by obtain ⟨hE, hb9⟩ := hB; (try simp only [Int32.reduceToInt] at hb9); exact .inr (⟨hE, (show zS_part p0 p1 p2 2 0 from (.inr ⟨rfl, by omega⟩))⟩)), hS.F h2⟩) hS.2.2 (Nat.le_of_ble_eq_true rfl) (Nat.le_of_ble_eq_true rfl)
  exact hw_3.elim
set_option maxHeartbeats 4000000 in
set_option maxRecDepth 100000 in
theorem k_X11_law (l : Launch) (hl0 : l.stackTraces = false) (sz : Nat) (D : va_G) (h cs : Nat → Nat) (p0 p1 p2 p3 : Int32) : vx_Met l yX11_law (.code yX11_law cX11_law 6 (some .int) :: zT) ({ frames := 7, cells := 6, slots := 39, locals := 112 }) (va_Pc [.ref (h 0), .int p0, .int p1, .int p2, .int p3] (zW D [((h 0), .inr (11, [.ref (h 1), .ref (h 9), .int 0, .int 0, .ref (h 20), .ref (h 37), .int 0, .ref (h 38), .ref (h 42), .ref (h 43), .ref (h 44), .ref (h 45), .ref (h 46), .ref (h 47), .ref (h 48)])), ((h 1), .inr (8, [.ref (h 2), .int 0, .ref (h 3), .ref (h 4), .int 0, .ref (h 5), .int 0, .ref (h 6), .int 0, .ref (h 7), .int 0])), ((h 3), .inl ((cs 9), 10, .inr (.inr (.inr (.inr (fun _ => none))))))] [((cs 9), .object RX9)] sz)) (va_Qi (fun (r : Int32) (_ : Unit) => zS_law p0 p1 p2 p3 0 r) (fun _ t => zE D [] [] (va_A [((h 0), .inr (11, [.ref (h 1), .ref (h 9), .int 0, .int 0, .ref (h 20), .ref (h 37), .int 0, .ref (h 38), .ref (h 42), .ref (h 43), .ref (h 44), .ref (h 45), .ref (h 46), .ref (h 47), .ref (h 48)])), ((h 1), .inr (8, [.ref (h 2), .int 0, .ref (h 3), .ref (h 4), .int 0, .ref (h 5), .int 0, .ref (h 6), .int 0, .ref (h 7), .int 0])), ((h 3), .inl ((cs 9), 10, .inr (.inr (.inr (.inr (fun _ => none))))))] sz) t) (va_A [((h 0), .inr (11, [.ref (h 1), .ref (h 9), .int 0, .int 0, .ref (h 20), .ref (h 37), .int 0, .ref (h 38), .ref (h 42), .ref (h 43), .ref (h 44), .ref (h 45), .ref (h 46), .ref (h 47), .ref (h 48)])), ((h 1), .inr (8, [.ref (h 2), .int 0, .ref (h 3), .ref (h 4), .int 0, .ref (h 5), .int 0, .ref (h 6), .int 0, .ref (h 7), .int 0])), ((h 3), .inl ((cs 9), 10, .inr (.inr (.inr (.inr (fun _ => none))))))] sz)) (vx_X (fun _ : Unit => True) (fun E _ _ => (E = "java/lang/IllegalArgumentException" ∧ zS_law p0 p1 p2 p3 1 0) ∨ (E = "java/lang/IndexOutOfBoundsException" ∧ zS_law p0 p1 p2 p3 2 0) ∨ (E = "java/lang/IllegalStateException" ∧ zS_law p0 p1 p2 p3 3 0)) (va_A [((h 0), .inr (11, [.ref (h 1), .ref (h 9), .int 0, .int 0, .ref (h 20), .ref (h 37), .int 0, .ref (h 38), .ref (h 42), .ref (h 43), .ref (h 44), .ref (h 45), .ref (h 46), .ref (h 47), .ref (h 48)])), ((h 1), .inr (8, [.ref (h 2), .int 0, .ref (h 3), .ref (h 4), .int 0, .ref (h 5), .int 0, .ref (h 6), .int 0, .ref (h 7), .int 0])), ((h 3), .inl ((cs 9), 10, .inr (.inr (.inr (.inr (fun _ => none))))))] sz)) 6 39 (va_A [((h 0), .inr (11, [.ref (h 1), .ref (h 9), .int 0, .int 0, .ref (h 20), .ref (h 37), .int 0, .ref (h 38), .ref (h 42), .ref (h 43), .ref (h 44), .ref (h 45), .ref (h 46), .ref (h 47), .ref (h 48)])), ((h 1), .inr (8, [.ref (h 2), .int 0, .ref (h 3), .ref (h 4), .int 0, .ref (h 5), .int 0, .ref (h 6), .int 0, .ref (h 7), .int 0])), ((h 3), .inl ((cs 9), 10, .inr (.inr (.inr (.inr (fun _ => none))))))] sz) := by
  refine vx_ofW (cc := cX11_law) (maxL := 6) (ret := (some .int)) (by decide) rfl ?_
  intro p e s m args below meth c s₁ B hml hexc hv
  obtain ⟨rfl, hEx, hsz, hP, hK, hD0⟩ := hv
  have hx := B.exec
  have hb := B.bytes
  have hr := B.returns
  have hts := atoms_spec (ws := (.code yX11_law cX11_law 6 (some .int) :: zT)) B.pre
  have ht : ∀ w ∈ zT, w.before _ s = true := fun w h => hts w (List.mem_cons_of_mem _ h)
  have hown : s.vm.findClass RX11 = some m.cls := findClass_of_methodNamed B.named
  have hlocks := B.notSynchronized
  subst hsz
  have hD := hD0.self (sz := s.heap.size)
  generalize hAe : va_A [((h 0), .inr (11, [.ref (h 1), .ref (h 9), .int 0, .int 0, .ref (h 20), .ref (h 37), .int 0, .ref (h 38), .ref (h 42), .ref (h 43), .ref (h 44), .ref (h 45), .ref (h 46), .ref (h 47), .ref (h 48)])), ((h 1), .inr (8, [.ref (h 2), .int 0, .ref (h 3), .ref (h 4), .int 0, .ref (h 5), .int 0, .ref (h 6), .int 0, .ref (h 7), .int 0])), ((h 3), .inl ((cs 9), 10, .inr (.inr (.inr (.inr (fun _ => none))))))] s.heap.size = A at hD hEx ⊢
  have hA : ∀ q : Nat, s.heap.size ≤ q → A q := fun q h => by rw [← hAe]; exact Or.inr h
  have hS : va_S A s.heap s.heap [] := va_S.rf
  have hP : va_P D vwCl [((h 0), .inr (11, [.ref (h 1), .ref (h 9), .int 0, .int 0, .ref (h 20), .ref (h 37), .int 0, .ref (h 38), .ref (h 42), .ref (h 43), .ref (h 44), .ref (h 45), .ref (h 46), .ref (h 47), .ref (h 48)])), ((h 1), .inr (8, [.ref (h 2), .int 0, .ref (h 3), .ref (h 4), .int 0, .ref (h 5), .int 0, .ref (h 6), .int 0, .ref (h 7), .int 0])), ((h 3), .inl ((cs 9), 10, .inr (.inr (.inr (.inr (fun _ => none))))))] s.heap := hP
  have hl := lv_entry ([.ref (h 0), .int p0, .int p1, .int p2, .int p3]) (n := 6) (Nat.le_of_ble_eq_true rfl)
  rw [lg_entry_eq]
  generalize (lg_sl ([.ref (h 0), .int p0, .int p1, .int p2, .int p3]) ++ List.replicate (6 - (lg_sl ([.ref (h 0), .int p0, .int p1, .int p2, .int p3])).length) Slot.unset).toArray = ls at hl ⊢
  have hl : lv_has ls 6 [(0, .ref (h 0)), (1, .int p0), (2, .int p1), (3, .int p2), (4, .int p3)] := hl
  skip
  refine lv_iload_n hx hb dX11_law_0 rfl (lv_at hl 1 rfl) ?_
  refine lv_bipush (v := 99) hx hb dX11_law_1 (by decide) ?_
  have hPc := hP.sub (ws' := []) [] rfl
  have hDc := hD.sub (ws' := []) [] (by decide) rfl
  have hKc := hK.sub (tys' := []) [] rfl
  have hFc := va_free (wc := []) hD hS hA [] rfl
  refine vx_callv (vx_runS (As := [.int p0, .int 99]) (rest := []) ⟨hx, hb, hml, hown, ht⟩ (k_X11_checkNumber l hl0 _ D p0 99) (va_cwS 2 ht (zG_S zw_410 zw_411 zw_404 zw_412) rfl rfl rfl (by decide +kernel) ⟨Nat.le_of_ble_eq_true rfl, Nat.le_of_ble_eq_true rfl⟩) (zW_S hEx hS hFc hPc hKc hDc) rfl rfl hl.1 rfl (lv_room (Nat.le_of_ble_eq_true rfl)) dX11_law_3 ⟨Nat.le_of_ble_eq_true rfl, Nat.le_of_ble_eq_true rfl⟩) hS (fun q _ h => hFc q h) hFc (fun q _ h => hFc q h) (fun E ce q9 uu t H1 locs1 ht0 hvm hpx hB hz1 hk1 hS hcell hv hcl => ?_) (fun u_1 t H1 locs ht0 hvm hw_1 hB hz1 hk1 hS => ?_)
  · exact vx_out (fun x hx => (hexc x hx).elim) hlocks hcell hv hcl (fun t2 h2 hv2 => ⟨(), trivial, (by obtain ⟨hE, hb9⟩ := hB; (try simp only [Int32.reduceToInt] at hb9); exact .inl ⟨hE, (show zS_law p0 p1 p2 p3 1 0 from (.inl ⟨rfl, by omega⟩))⟩), hS.F h2⟩) hS.2.2 (Nat.le_of_ble_eq_true rfl) (Nat.le_of_ble_eq_true rfl)
  obtain ⟨hP1, hK1, hD1⟩ := hB
  rw [ht0] at hP1
  have hK1 := va_K.moved hvm.symm hK1
  obtain ⟨hP, hD⟩ := va_join (wr := [((h 0), .inr (11, [.ref (h 1), .ref (h 9), .int 0, .int 0, .ref (h 20), .ref (h 37), .int 0, .ref (h 38), .ref (h 42), .ref (h 43), .ref (h 44), .ref (h 45), .ref (h 46), .ref (h 47), .ref (h 48)])), ((h 1), .inr (8, [.ref (h 2), .int 0, .ref (h 3), .ref (h 4), .int 0, .ref (h 5), .int 0, .ref (h 6), .int 0, .ref (h 7), .int 0])), ((h 3), .inl ((cs 9), 10, .inr (.inr (.inr (.inr (fun _ => none))))))]) (w1 := []) hP hD [] [0, 1, 2] rfl rfl (by decide) (by decide) hk1 hFc hP1 hD1
  generalize H1 = H at hP hS ⊢
  have hP : va_P D vwCl [((h 0), .inr (11, [.ref (h 1), .ref (h 9), .int 0, .int 0, .ref (h 20), .ref (h 37), .int 0, .ref (h 38), .ref (h 42), .ref (h 43), .ref (h 44), .ref (h 45), .ref (h 46), .ref (h 47), .ref (h 48)])), ((h 1), .inr (8, [.ref (h 2), .int 0, .ref (h 3), .ref (h 4), .int 0, .ref (h 5), .int 0, .ref (h 6), .int 0, .ref (h 7), .int 0])), ((h 3), .inl ((cs 9), 10, .inr (.inr (.inr (.inr (fun _ => none))))))] H := hP
  have hD : va_D A [((h 0), .inr (11, [.ref (h 1), .ref (h 9), .int 0, .int 0, .ref (h 20), .ref (h 37), .int 0, .ref (h 38), .ref (h 42), .ref (h 43), .ref (h 44), .ref (h 45), .ref (h 46), .ref (h 47), .ref (h 48)])), ((h 1), .inr (8, [.ref (h 2), .int 0, .ref (h 3), .ref (h 4), .int 0, .ref (h 5), .int 0, .ref (h 6), .int 0, .ref (h 7), .int 0])), ((h 3), .inl ((cs 9), 10, .inr (.inr (.inr (.inr (fun _ => none))))))] := hD
  refine W.widen (k := 1) (n := 6) (Nat.le_of_ble_eq_true rfl) (Nat.le_of_ble_eq_true rfl) ?_
  simp only [Int32.reduceToInt] at hw_1
  refine lv_iload_n hx hb dX11_law_6 rfl (lv_at hl 3 rfl) ?_
  refine lv_iconst (v := 1) hx hb dX11_law_7 (by decide) ?_
  have hPc := hP.sub (ws' := []) [] rfl
  have hDc := hD.sub (ws' := []) [] (by decide) rfl
  have hKc := hK.sub (tys' := []) [] rfl
  have hFc := va_free (wc := []) hD hS hA [] rfl
  refine vx_callv (vx_runS (As := [.int p2, .int 1]) (rest := []) ⟨hx, hb, hml, hown, ht⟩ (k_X11_checkNumber l hl0 _ D p2 1) (va_cwS 2 ht (zG_S zw_410 zw_411 zw_404 zw_412) rfl rfl rfl (by decide +kernel) ⟨Nat.le_of_ble_eq_true rfl, Nat.le_of_ble_eq_true rfl⟩) (zW_S hEx hS hFc hPc hKc hDc) rfl rfl hl.1 rfl (lv_room (Nat.le_of_ble_eq_true rfl)) dX11_law_8 ⟨Nat.le_of_ble_eq_true rfl, Nat.le_of_ble_eq_true rfl⟩) hS (fun q _ h => hFc q h) hFc (fun q _ h => hFc q h) (fun E ce q9 uu t H1 locs1 ht0 hvm hpx hB hz1 hk1 hS hcell hv hcl => ?_) (fun u_2 t H1 locs ht0 hvm hw_2 hB hz1 hk1 hS => ?_)
  · exact vx_out (fun x hx => (hexc x hx).elim) hlocks hcell hv hcl (fun t2 h2 hv2 => ⟨(), trivial, (by obtain ⟨hE, hb9⟩ := hB; (try simp only [Int32.reduceToInt] at hb9); exact .inl ⟨hE, (show zS_law p0 p1 p2 p3 1 0 from (.inl ⟨rfl, by omega⟩))⟩), hS.F h2⟩) hS.2.2 (Nat.le_of_ble_eq_true rfl) (Nat.le_of_ble_eq_true rfl)
  obtain ⟨hP1, hK1, hD1⟩ := hB
  rw [ht0] at hP1
  have hK1 := va_K.moved hvm.symm hK1
  obtain ⟨hP, hD⟩ := va_join (wr := [((h 0), .inr (11, [.ref (h 1), .ref (h 9), .int 0, .int 0, .ref (h 20), .ref (h 37), .int 0, .ref (h 38), .ref (h 42), .ref (h 43), .ref (h 44), .ref (h 45), .ref (h 46), .ref (h 47), .ref (h 48)])), ((h 1), .inr (8, [.ref (h 2), .int 0, .ref (h 3), .ref (h 4), .int 0, .ref (h 5), .int 0, .ref (h 6), .int 0, .ref (h 7), .int 0])), ((h 3), .inl ((cs 9), 10, .inr (.inr (.inr (.inr (fun _ => none))))))]) (w1 := []) hP hD [] [0, 1, 2] rfl rfl (by decide) (by decide) hk1 hFc hP1 hD1
  generalize H1 = H at hP hS ⊢
  have hP : va_P D vwCl [((h 0), .inr (11, [.ref (h 1), .ref (h 9), .int 0, .int 0, .ref (h 20), .ref (h 37), .int 0, .ref (h 38), .ref (h 42), .ref (h 43), .ref (h 44), .ref (h 45), .ref (h 46), .ref (h 47), .ref (h 48)])), ((h 1), .inr (8, [.ref (h 2), .int 0, .ref (h 3), .ref (h 4), .int 0, .ref (h 5), .int 0, .ref (h 6), .int 0, .ref (h 7), .int 0])), ((h 3), .inl ((cs 9), 10, .inr (.inr (.inr (.inr (fun _ => none))))))] H := hP
  have hD : va_D A [((h 0), .inr (11, [.ref (h 1), .ref (h 9), .int 0, .int 0, .ref (h 20), .ref (h 37), .int 0, .ref (h 38), .ref (h 42), .ref (h 43), .ref (h 44), .ref (h 45), .ref (h 46), .ref (h 47), .ref (h 48)])), ((h 1), .inr (8, [.ref (h 2), .int 0, .ref (h 3), .ref (h 4), .int 0, .ref (h 5), .int 0, .ref (h 6), .int 0, .ref (h 7), .int 0])), ((h 3), .inl ((cs 9), 10, .inr (.inr (.inr (.inr (fun _ => none))))))] := hD
  refine W.widen (k := 2) (n := 12) (Nat.le_of_ble_eq_true rfl) (Nat.le_of_ble_eq_true rfl) ?_
  simp only [Int32.reduceToInt] at hw_2
  refine lv_iload_n hx hb dX11_law_11 rfl (lv_at hl 2 rfl) ?_
  refine lv_bipush (v := 10) hx hb dX11_law_12 (by decide) ?_
  have hPc := hP.sub (ws' := []) [] rfl
  have hDc := hD.sub (ws' := []) [] (by decide) rfl
  have hKc := hK.sub (tys' := []) [] rfl
  have hFc := va_free (wc := []) hD hS hA [] rfl
  refine vx_callv (vx_runS (As := [.int p1, .int 10]) (rest := []) ⟨hx, hb, hml, hown, ht⟩ (k_X11_checkIndex l hl0 _ D p1 10) (va_cwS 2 ht (zG_S zw_402 zw_403 zw_404 zw_405) rfl rfl rfl (by decide +kernel) ⟨Nat.le_of_ble_eq_true rfl, Nat.le_of_ble_eq_true rfl⟩) (zW_S hEx hS hFc hPc hKc hDc) rfl rfl hl.1 rfl (lv_room (Nat.le_of_ble_eq_true rfl)) dX11_law_14 ⟨Nat.le_of_ble_eq_true rfl, Nat.le_of_ble_eq_true rfl⟩) hS (fun q _ h => hFc q h) hFc (fun q _ h => hFc q h) (fun E ce q9 uu t H1 locs1 ht0 hvm hpx hB hz1 hk1 hS hcell hv hcl => ?_) (fun u_3 t H1 locs ht0 hvm hw_3 hB hz1 hk1 hS => ?_)
  · exact vx_out (fun x hx => (hexc x hx).elim) hlocks hcell hv hcl (fun t2 h2 hv2 => ⟨(), trivial, (by obtain ⟨hE, hb9⟩ := hB; (try simp only [Int32.reduceToInt] at hb9); exact .inr (.inl ⟨hE, (show zS_law p0 p1 p2 p3 2 0 from (.inr (.inl ⟨rfl, by omega⟩)))⟩)), hS.F h2⟩) hS.2.2 (Nat.le_of_ble_eq_true rfl) (Nat.le_of_ble_eq_true rfl)
  obtain ⟨hP1, hK1, hD1⟩ := hB
  rw [ht0] at hP1
  have hK1 := va_K.moved hvm.symm hK1
  obtain ⟨hP, hD⟩ := va_join (wr := [((h 0), .inr (11, [.ref (h 1), .ref (h 9), .int 0, .int 0, .ref (h 20), .ref (h 37), .int 0, .ref (h 38), .ref (h 42), .ref (h 43), .ref (h 44), .ref (h 45), .ref (h 46), .ref (h 47), .ref (h 48)])), ((h 1), .inr (8, [.ref (h 2), .int 0, .ref (h 3), .ref (h 4), .int 0, .ref (h 5), .int 0, .ref (h 6), .int 0, .ref (h 7), .int 0])), ((h 3), .inl ((cs 9), 10, .inr (.inr (.inr (.inr (fun _ => none))))))]) (w1 := []) hP hD [] [0, 1, 2] rfl rfl (by decide) (by decide) hk1 hFc hP1 hD1
  generalize H1 = H at hP hS ⊢
  have hP : va_P D vwCl [((h 0), .inr (11, [.ref (h 1), .ref (h 9), .int 0, .int 0, .ref (h 20), .ref (h 37), .int 0, .ref (h 38), .ref (h 42), .ref (h 43), .ref (h 44), .ref (h 45), .ref (h 46), .ref (h 47), .ref (h 48)])), ((h 1), .inr (8, [.ref (h 2), .int 0, .ref (h 3), .ref (h 4), .int 0, .ref (h 5), .int 0, .ref (h 6), .int 0, .ref (h 7), .int 0])), ((h 3), .inl ((cs 9), 10, .inr (.inr (.inr (.inr (fun _ => none))))))] H := hP
  have hD : va_D A [((h 0), .inr (11, [.ref (h 1), .ref (h 9), .int 0, .int 0, .ref (h 20), .ref (h 37), .int 0, .ref (h 38), .ref (h 42), .ref (h 43), .ref (h 44), .ref (h 45), .ref (h 46), .ref (h 47), .ref (h 48)])), ((h 1), .inr (8, [.ref (h 2), .int 0, .ref (h 3), .ref (h 4), .int 0, .ref (h 5), .int 0, .ref (h 6), .int 0, .ref (h 7), .int 0])), ((h 3), .inl ((cs 9), 10, .inr (.inr (.inr (.inr (fun _ => none))))))] := hD
  refine W.widen (k := 3) (n := 18) (Nat.le_of_ble_eq_true rfl) (Nat.le_of_ble_eq_true rfl) ?_
  simp only [Int32.reduceToInt] at hw_3
  refine lv_iload hx hb dX11_law_17 (lv_at hl 4 rfl) ?_
  refine lv_bipush (v := 10) hx hb dX11_law_19 (by decide) ?_
  have hPc := hP.sub (ws' := []) [] rfl
  have hDc := hD.sub (ws' := []) [] (by decide) rfl
  have hKc := hK.sub (tys' := []) [] rfl
  have hFc := va_free (wc := []) hD hS hA [] rfl
  refine vx_callv (vx_runS (As := [.int p3, .int 10]) (rest := []) ⟨hx, hb, hml, hown, ht⟩ (k_X11_checkIndex l hl0 _ D p3 10) (va_cwS 2 ht (zG_S zw_402 zw_403 zw_404 zw_405) rfl rfl rfl (by decide +kernel) ⟨Nat.le_of_ble_eq_true rfl, Nat.le_of_ble_eq_true rfl⟩) (zW_S hEx hS hFc hPc hKc hDc) rfl rfl hl.1 rfl (lv_room (Nat.le_of_ble_eq_true rfl)) dX11_law_21 ⟨Nat.le_of_ble_eq_true rfl, Nat.le_of_ble_eq_true rfl⟩) hS (fun q _ h => hFc q h) hFc (fun q _ h => hFc q h) (fun E ce q9 uu t H1 locs1 ht0 hvm hpx hB hz1 hk1 hS hcell hv hcl => ?_) (fun u_4 t H1 locs ht0 hvm hw_4 hB hz1 hk1 hS => ?_)
  · exact vx_out (fun x hx => (hexc x hx).elim) hlocks hcell hv hcl (fun t2 h2 hv2 => ⟨(), trivial, (by obtain ⟨hE, hb9⟩ := hB; (try simp only [Int32.reduceToInt] at hb9); exact .inr (.inl ⟨hE, (show zS_law p0 p1 p2 p3 2 0 from (.inr (.inl ⟨rfl, by omega⟩)))⟩)), hS.F h2⟩) hS.2.2 (Nat.le_of_ble_eq_true rfl) (Nat.le_of_ble_eq_true rfl)
  obtain ⟨hP1, hK1, hD1⟩ := hB
  rw [ht0] at hP1
  have hK1 := va_K.moved hvm.symm hK1
  obtain ⟨hP, hD⟩ := va_join (wr := [((h 0), .inr (11, [.ref (h 1), .ref (h 9), .int 0, .int 0, .ref (h 20), .ref (h 37), .int 0, .ref (h 38), .ref (h 42), .ref (h 43), .ref (h 44), .ref (h 45), .ref (h 46), .ref (h 47), .ref (h 48)])), ((h 1), .inr (8, [.ref (h 2), .int 0, .ref (h 3), .ref (h 4), .int 0, .ref (h 5), .int 0, .ref (h 6), .int 0, .ref (h 7), .int 0])), ((h 3), .inl ((cs 9), 10, .inr (.inr (.inr (.inr (fun _ => none))))))]) (w1 := []) hP hD [] [0, 1, 2] rfl rfl (by decide) (by decide) hk1 hFc hP1 hD1
  generalize H1 = H at hP hS ⊢
  have hP : va_P D vwCl [((h 0), .inr (11, [.ref (h 1), .ref (h 9), .int 0, .int 0, .ref (h 20), .ref (h 37), .int 0, .ref (h 38), .ref (h 42), .ref (h 43), .ref (h 44), .ref (h 45), .ref (h 46), .ref (h 47), .ref (h 48)])), ((h 1), .inr (8, [.ref (h 2), .int 0, .ref (h 3), .ref (h 4), .int 0, .ref (h 5), .int 0, .ref (h 6), .int 0, .ref (h 7), .int 0])), ((h 3), .inl ((cs 9), 10, .inr (.inr (.inr (.inr (fun _ => none))))))] H := hP
  have hD : va_D A [((h 0), .inr (11, [.ref (h 1), .ref (h 9), .int 0, .int 0, .ref (h 20), .ref (h 37), .int 0, .ref (h 38), .ref (h 42), .ref (h 43), .ref (h 44), .ref (h 45), .ref (h 46), .ref (h 47), .ref (h 48)])), ((h 1), .inr (8, [.ref (h 2), .int 0, .ref (h 3), .ref (h 4), .int 0, .ref (h 5), .int 0, .ref (h 6), .int 0, .ref (h 7), .int 0])), ((h 3), .inl ((cs 9), 10, .inr (.inr (.inr (.inr (fun _ => none))))))] := hD
  refine W.widen (k := 4) (n := 24) (Nat.le_of_ble_eq_true rfl) (Nat.le_of_ble_eq_true rfl) ?_
  simp only [Int32.reduceToInt] at hw_4
  refine va_new (ci := 4) (fs := [.int 0, .null, .int 0, .null, .int 0, .int 0, .int 0, .null, .null]) (C := RX4) (T := TX4) (N := 9) hx hb ht zinX4 tyX4 tyX4_ok hown (ht _ zw_422) (ht _ zw_423) (ht _ zw_424) hK hP hD hS hA rfl (fun j hj => by rcases (show j = 0 ∨ j = 1 ∨ j = 2 ∨ j = 3 ∨ j = 4 ∨ j = 5 ∨ j = 6 ∨ j = 7 ∨ j = 8 by omega) with rfl | rfl | rfl | rfl | rfl | rfl | rfl | rfl | rfl <;> rfl) (Nat.le_of_ble_eq_true rfl) (Nat.le_of_ble_eq_true rfl) dX11_law_24 (fun q_5 H hP hD hS => ?_)
  have hP : va_P D vwCl [((h 0), .inr (11, [.ref (h 1), .ref (h 9), .int 0, .int 0, .ref (h 20), .ref (h 37), .int 0, .ref (h 38), .ref (h 42), .ref (h 43), .ref (h 44), .ref (h 45), .ref (h 46), .ref (h 47), .ref (h 48)])), ((h 1), .inr (8, [.ref (h 2), .int 0, .ref (h 3), .ref (h 4), .int 0, .ref (h 5), .int 0, .ref (h 6), .int 0, .ref (h 7), .int 0])), ((h 3), .inl ((cs 9), 10, .inr (.inr (.inr (.inr (fun _ => none)))))), (q_5, .inr (4, [.int 0, .null, .int 0, .null, .int 0, .int 0, .int 0, .null, .null]))] H := hP
  have hD : va_D A [((h 0), .inr (11, [.ref (h 1), .ref (h 9), .int 0, .int 0, .ref (h 20), .ref (h 37), .int 0, .ref (h 38), .ref (h 42), .ref (h 43), .ref (h 44), .ref (h 45), .ref (h 46), .ref (h 47), .ref (h 48)])), ((h 1), .inr (8, [.ref (h 2), .int 0, .ref (h 3), .ref (h 4), .int 0, .ref (h 5), .int 0, .ref (h 6), .int 0, .ref (h 7), .int 0])), ((h 3), .inl ((cs 9), 10, .inr (.inr (.inr (.inr (fun _ => none)))))), (q_5, .inr (4, [.int 0, .null, .int 0, .null, .int 0, .int 0, .int 0, .null, .null]))] := hD
  refine W.widen (k := 5) (n := 33) (Nat.le_of_ble_eq_true rfl) (Nat.le_of_ble_eq_true rfl) ?_
  refine lv_dup hx hb dX11_law_27 rfl ?_
  refine lv_iload_n hx hb dX11_law_28 rfl (lv_at hl 1 rfl) ?_
  refine lv_aload_n hx hb dX11_law_29 rfl (lv_at hl 0 rfl) ?_
  refine lv_iload_n hx hb dX11_law_30 rfl (lv_at hl 2 rfl) ?_
  have hPc := hP.sub (ws' := [((h 0), .inr (11, [.ref (h 1), .ref (h 9), .int 0, .int 0, .ref (h 20), .ref (h 37), .int 0, .ref (h 38), .ref (h 42), .ref (h 43), .ref (h 44), .ref (h 45), .ref (h 46), .ref (h 47), .ref (h 48)])), ((h 1), .inr (8, [.ref (h 2), .int 0, .ref (h 3), .ref (h 4), .int 0, .ref (h 5), .int 0, .ref (h 6), .int 0, .ref (h 7), .int 0])), ((h 3), .inl ((cs 9), 10, .inr (.inr (.inr (.inr (fun _ => none))))))]) [0, 1, 2] rfl
  have hDc := hD.sub (ws' := [((h 0), .inr (11, [.ref (h 1), .ref (h 9), .int 0, .int 0, .ref (h 20), .ref (h 37), .int 0, .ref (h 38), .ref (h 42), .ref (h 43), .ref (h 44), .ref (h 45), .ref (h 46), .ref (h 47), .ref (h 48)])), ((h 1), .inr (8, [.ref (h 2), .int 0, .ref (h 3), .ref (h 4), .int 0, .ref (h 5), .int 0, .ref (h 6), .int 0, .ref (h 7), .int 0])), ((h 3), .inl ((cs 9), 10, .inr (.inr (.inr (.inr (fun _ => none))))))]) [0, 1, 2] (by decide) rfl
  have hKc := hK.sub (tys' := [((cs 9), .object RX9)]) [0] rfl
  have hFc := va_free (wc := [((h 0), .inr (11, [.ref (h 1), .ref (h 9), .int 0, .int 0, .ref (h 20), .ref (h 37), .int 0, .ref (h 38), .ref (h 42), .ref (h 43), .ref (h 44), .ref (h 45), .ref (h 46), .ref (h 47), .ref (h 48)])), ((h 1), .inr (8, [.ref (h 2), .int 0, .ref (h 3), .ref (h 4), .int 0, .ref (h 5), .int 0, .ref (h 6), .int 0, .ref (h 7), .int 0])), ((h 3), .inl ((cs 9), 10, .inr (.inr (.inr (.inr (fun _ => none))))))]) hD hS hA [0, 1, 2] rfl
  refine vx_callq (vx_runV (As := [.int p1]) (rest := [.int p0, .ref q_5, .ref q_5]) ⟨hx, hb, hml, hown, ht⟩ (k_X11_filled l hl0 _ D h cs p1 hw_3) (cwV 1 ht (zG_V zw_406 zw_407 zw_408 zw_404 zw_409) rfl rfl rfl (by decide +kernel) ⟨Nat.le_of_ble_eq_true rfl, Nat.le_of_ble_eq_true rfl⟩) (zW_V (va_recv hK hP (ci := 11) (q0 := 0) rfl rfl) hEx hS hFc hPc hKc hDc) rfl rfl hl.1 rfl (lv_room (Nat.le_of_ble_eq_true rfl)) dX11_law_31 ⟨Nat.le_of_ble_eq_true rfl, Nat.le_of_ble_eq_true rfl⟩) hS (fun q _ h => hFc q h) hFc (fun q _ h => hFc q h) (fun E ce q9 uu t H1 locs1 ht0 hvm hpx hB hz1 hk1 hS hcell hv hcl => ?_) (fun r_6 u_6 t H1 locs ht0 hvm hw_6 hB hz1 hk1 hS => ?_)
  · exact vx_out (fun x hx => (hexc x hx).elim) hlocks hcell hv hcl (fun t2 h2 hv2 => ⟨(), trivial, (by obtain ⟨hE, hb9⟩ := hB; (try simp only [Int32.reduceToInt] at hb9); exact .inr (.inr (⟨hE, (show zS_law p0 p1 p2 p3 3 0 from (.inr (.inr ⟨rfl, by omega⟩)))⟩))), hS.F h2⟩) hS.2.2 (Nat.le_of_ble_eq_true rfl) (Nat.le_of_ble_eq_true rfl)
  exact hw_6.elim
set_option maxHeartbeats 4000000 in
set_option maxRecDepth 100000 in
theorem k_X11_condition (l : Launch) (hl0 : l.stackTraces = false) (sz : Nat) (D : va_G) (h cs : Nat → Nat) (p0 p1 p2 : Int32) : vx_Met l yX11_condition (.code yX11_condition cX11_condition 8 (some .boolean) :: zT) ({ frames := 7, cells := 1, slots := 6, locals := 112 }) (va_Pc [.ref (h 0), .int p0, .int p1, .int p2] (zW D [((h 0), .inr (11, [.ref (h 1), .ref (h 9), .int 0, .int 0, .ref (h 20), .ref (h 37), .int 0, .ref (h 38), .ref (h 42), .ref (h 43), .ref (h 44), .ref (h 45), .ref (h 46), .ref (h 47), .ref (h 48)])), ((h 1), .inr (8, [.ref (h 2), .int 0, .ref (h 3), .ref (h 4), .int 0, .ref (h 5), .int 0, .ref (h 6), .int 0, .ref (h 7), .int 0])), ((h 4), .inl ((cs 4), 100, .inr (.inr (.inr (.inr (fun _ => none))))))] [((cs 4), .object RX4)] sz)) (va_Qi (fun (r : Int32) (_ : Unit) => zS_condition p0 p1 p2 0 r) (fun _ t => zE D [] [] (va_A [((h 0), .inr (11, [.ref (h 1), .ref (h 9), .int 0, .int 0, .ref (h 20), .ref (h 37), .int 0, .ref (h 38), .ref (h 42), .ref (h 43), .ref (h 44), .ref (h 45), .ref (h 46), .ref (h 47), .ref (h 48)])), ((h 1), .inr (8, [.ref (h 2), .int 0, .ref (h 3), .ref (h 4), .int 0, .ref (h 5), .int 0, .ref (h 6), .int 0, .ref (h 7), .int 0])), ((h 4), .inl ((cs 4), 100, .inr (.inr (.inr (.inr (fun _ => none))))))] sz) t) (va_A [((h 0), .inr (11, [.ref (h 1), .ref (h 9), .int 0, .int 0, .ref (h 20), .ref (h 37), .int 0, .ref (h 38), .ref (h 42), .ref (h 43), .ref (h 44), .ref (h 45), .ref (h 46), .ref (h 47), .ref (h 48)])), ((h 1), .inr (8, [.ref (h 2), .int 0, .ref (h 3), .ref (h 4), .int 0, .ref (h 5), .int 0, .ref (h 6), .int 0, .ref (h 7), .int 0])), ((h 4), .inl ((cs 4), 100, .inr (.inr (.inr (.inr (fun _ => none))))))] sz)) (vx_X (fun _ : Unit => True) (fun E _ _ => (E = "java/util/NoSuchElementException" ∧ zS_condition p0 p1 p2 1 0)) (va_A [((h 0), .inr (11, [.ref (h 1), .ref (h 9), .int 0, .int 0, .ref (h 20), .ref (h 37), .int 0, .ref (h 38), .ref (h 42), .ref (h 43), .ref (h 44), .ref (h 45), .ref (h 46), .ref (h 47), .ref (h 48)])), ((h 1), .inr (8, [.ref (h 2), .int 0, .ref (h 3), .ref (h 4), .int 0, .ref (h 5), .int 0, .ref (h 6), .int 0, .ref (h 7), .int 0])), ((h 4), .inl ((cs 4), 100, .inr (.inr (.inr (.inr (fun _ => none))))))] sz)) 1 6 (va_A [((h 0), .inr (11, [.ref (h 1), .ref (h 9), .int 0, .int 0, .ref (h 20), .ref (h 37), .int 0, .ref (h 38), .ref (h 42), .ref (h 43), .ref (h 44), .ref (h 45), .ref (h 46), .ref (h 47), .ref (h 48)])), ((h 1), .inr (8, [.ref (h 2), .int 0, .ref (h 3), .ref (h 4), .int 0, .ref (h 5), .int 0, .ref (h 6), .int 0, .ref (h 7), .int 0])), ((h 4), .inl ((cs 4), 100, .inr (.inr (.inr (.inr (fun _ => none))))))] sz) := by
  refine vx_ofW (cc := cX11_condition) (maxL := 8) (ret := (some .boolean)) (by decide) rfl ?_
  intro p e s m args below meth c s₁ B hml hexc hv
  obtain ⟨rfl, hEx, hsz, hP, hK, hD0⟩ := hv
  have hx := B.exec
  have hb := B.bytes
  have hr := B.returns
  have hts := atoms_spec (ws := (.code yX11_condition cX11_condition 8 (some .boolean) :: zT)) B.pre
  have ht : ∀ w ∈ zT, w.before _ s = true := fun w h => hts w (List.mem_cons_of_mem _ h)
  have hown : s.vm.findClass RX11 = some m.cls := findClass_of_methodNamed B.named
  have hlocks := B.notSynchronized
  subst hsz
  have hD := hD0.self (sz := s.heap.size)
  generalize hAe : va_A [((h 0), .inr (11, [.ref (h 1), .ref (h 9), .int 0, .int 0, .ref (h 20), .ref (h 37), .int 0, .ref (h 38), .ref (h 42), .ref (h 43), .ref (h 44), .ref (h 45), .ref (h 46), .ref (h 47), .ref (h 48)])), ((h 1), .inr (8, [.ref (h 2), .int 0, .ref (h 3), .ref (h 4), .int 0, .ref (h 5), .int 0, .ref (h 6), .int 0, .ref (h 7), .int 0])), ((h 4), .inl ((cs 4), 100, .inr (.inr (.inr (.inr (fun _ => none))))))] s.heap.size = A at hD hEx ⊢
  have hA : ∀ q : Nat, s.heap.size ≤ q → A q := fun q h => by rw [← hAe]; exact Or.inr h
  have hS : va_S A s.heap s.heap [] := va_S.rf
  have hP : va_P D vwCl [((h 0), .inr (11, [.ref (h 1), .ref (h 9), .int 0, .int 0, .ref (h 20), .ref (h 37), .int 0, .ref (h 38), .ref (h 42), .ref (h 43), .ref (h 44), .ref (h 45), .ref (h 46), .ref (h 47), .ref (h 48)])), ((h 1), .inr (8, [.ref (h 2), .int 0, .ref (h 3), .ref (h 4), .int 0, .ref (h 5), .int 0, .ref (h 6), .int 0, .ref (h 7), .int 0])), ((h 4), .inl ((cs 4), 100, .inr (.inr (.inr (.inr (fun _ => none))))))] s.heap := hP
  have hl := lv_entry ([.ref (h 0), .int p0, .int p1, .int p2]) (n := 8) (Nat.le_of_ble_eq_true rfl)
  rw [lg_entry_eq]
  generalize (lg_sl ([.ref (h 0), .int p0, .int p1, .int p2]) ++ List.replicate (8 - (lg_sl ([.ref (h 0), .int p0, .int p1, .int p2])).length) Slot.unset).toArray = ls at hl ⊢
  have hl : lv_has ls 8 [(0, .ref (h 0)), (1, .int p0), (2, .int p1), (3, .int p2)] := hl
  skip
  refine lv_aload_n hx hb dX11_condition_0 rfl (lv_at hl 0 rfl) ?_
  refine lv_iload_n hx hb dX11_condition_1 rfl (lv_at hl 1 rfl) ?_
  have hPc := hP.sub (ws' := [((h 0), .inr (11, [.ref (h 1), .ref (h 9), .int 0, .int 0, .ref (h 20), .ref (h 37), .int 0, .ref (h 38), .ref (h 42), .ref (h 43), .ref (h 44), .ref (h 45), .ref (h 46), .ref (h 47), .ref (h 48)])), ((h 1), .inr (8, [.ref (h 2), .int 0, .ref (h 3), .ref (h 4), .int 0, .ref (h 5), .int 0, .ref (h 6), .int 0, .ref (h 7), .int 0])), ((h 4), .inl ((cs 4), 100, .inr (.inr (.inr (.inr (fun _ => none))))))]) [0, 1, 2] rfl
  have hDc := hD.sub (ws' := [((h 0), .inr (11, [.ref (h 1), .ref (h 9), .int 0, .int 0, .ref (h 20), .ref (h 37), .int 0, .ref (h 38), .ref (h 42), .ref (h 43), .ref (h 44), .ref (h 45), .ref (h 46), .ref (h 47), .ref (h 48)])), ((h 1), .inr (8, [.ref (h 2), .int 0, .ref (h 3), .ref (h 4), .int 0, .ref (h 5), .int 0, .ref (h 6), .int 0, .ref (h 7), .int 0])), ((h 4), .inl ((cs 4), 100, .inr (.inr (.inr (.inr (fun _ => none))))))]) [0, 1, 2] (by decide) rfl
  have hKc := hK.sub (tys' := [((cs 4), .object RX4)]) [0] rfl
  have hFc := va_free (wc := [((h 0), .inr (11, [.ref (h 1), .ref (h 9), .int 0, .int 0, .ref (h 20), .ref (h 37), .int 0, .ref (h 38), .ref (h 42), .ref (h 43), .ref (h 44), .ref (h 45), .ref (h 46), .ref (h 47), .ref (h 48)])), ((h 1), .inr (8, [.ref (h 2), .int 0, .ref (h 3), .ref (h 4), .int 0, .ref (h 5), .int 0, .ref (h 6), .int 0, .ref (h 7), .int 0])), ((h 4), .inl ((cs 4), 100, .inr (.inr (.inr (.inr (fun _ => none))))))]) hD hS hA [0, 1, 2] rfl
  refine vx_callq (vx_runV (As := [.int p0]) (rest := []) ⟨hx, hb, hml, hown, ht⟩ (k_X11_lawThere l hl0 _ D h cs p0) (cwV 1 ht (zG_V zw_425 zw_426 zw_427 zw_404 zw_428) rfl rfl rfl (by decide +kernel) ⟨Nat.le_of_ble_eq_true rfl, Nat.le_of_ble_eq_true rfl⟩) (zW_V (va_recv hK hP (ci := 11) (q0 := 0) rfl rfl) hEx hS hFc hPc hKc hDc) rfl rfl hl.1 rfl (lv_room (Nat.le_of_ble_eq_true rfl)) dX11_condition_2 ⟨Nat.le_of_ble_eq_true rfl, Nat.le_of_ble_eq_true rfl⟩) hS (fun q _ h => hFc q h) hFc (fun q _ h => hFc q h) (fun E ce q9 uu t H1 locs1 ht0 hvm hpx hB hz1 hk1 hS hcell hv hcl => ?_) (fun r_1 u_1 t H1 locs ht0 hvm hw_1 hB hz1 hk1 hS => ?_)
  · exact vx_out (fun x hx => (hexc x hx).elim) hlocks hcell hv hcl (fun t2 h2 hv2 => ⟨(), trivial, (by obtain ⟨hE, hb9⟩ := hB; (try simp only [Int32.reduceToInt] at hb9); exact ⟨hE, (show zS_condition p0 p1 p2 1 0 from ⟨rfl, by trivial⟩)⟩), hS.F h2⟩) hS.2.2 (Nat.le_of_ble_eq_true rfl) (Nat.le_of_ble_eq_true rfl)
  exact hw_1.elim
set_option maxHeartbeats 4000000 in
set_option maxRecDepth 100000 in
theorem k_X11_equivalence (l : Launch) (hl0 : l.stackTraces = false) (sz : Nat) (D : va_G) (h cs : Nat → Nat) (p0 p1 p2 p3 p4 : Int32) : vx_Met l yX11_equivalence (.code yX11_equivalence cX11_equivalence 8 (some .int) :: zT) ({ frames := 7, cells := 7, slots := 45, locals := 112 }) (va_Pc [.ref (h 0), .int p0, .int p1, .int p2, .int p3, .int p4] (zW D [((h 0), .inr (11, [.ref (h 1), .ref (h 9), .int 0, .int 0, .ref (h 20), .ref (h 37), .int 0, .ref (h 38), .ref (h 42), .ref (h 43), .ref (h 44), .ref (h 45), .ref (h 46), .ref (h 47), .ref (h 48)])), ((h 1), .inr (8, [.ref (h 2), .int 0, .ref (h 3), .ref (h 4), .int 0, .ref (h 5), .int 0, .ref (h 6), .int 0, .ref (h 7), .int 0])), ((h 3), .inl ((cs 9), 10, .inr (.inr (.inr (.inr (fun _ => none))))))] [((cs 9), .object RX9)] sz)) (va_Qi (fun (r : Int32) (_ : Unit) => zS_equivalence p0 p1 p2 p3 p4 0 r) (fun _ t => zE D [] [] (va_A [((h 0), .inr (11, [.ref (h 1), .ref (h 9), .int 0, .int 0, .ref (h 20), .ref (h 37), .int 0, .ref (h 38), .ref (h 42), .ref (h 43), .ref (h 44), .ref (h 45), .ref (h 46), .ref (h 47), .ref (h 48)])), ((h 1), .inr (8, [.ref (h 2), .int 0, .ref (h 3), .ref (h 4), .int 0, .ref (h 5), .int 0, .ref (h 6), .int 0, .ref (h 7), .int 0])), ((h 3), .inl ((cs 9), 10, .inr (.inr (.inr (.inr (fun _ => none))))))] sz) t) (va_A [((h 0), .inr (11, [.ref (h 1), .ref (h 9), .int 0, .int 0, .ref (h 20), .ref (h 37), .int 0, .ref (h 38), .ref (h 42), .ref (h 43), .ref (h 44), .ref (h 45), .ref (h 46), .ref (h 47), .ref (h 48)])), ((h 1), .inr (8, [.ref (h 2), .int 0, .ref (h 3), .ref (h 4), .int 0, .ref (h 5), .int 0, .ref (h 6), .int 0, .ref (h 7), .int 0])), ((h 3), .inl ((cs 9), 10, .inr (.inr (.inr (.inr (fun _ => none))))))] sz)) (vx_X (fun _ : Unit => True) (fun E _ _ => (E = "java/lang/IllegalArgumentException" ∧ zS_equivalence p0 p1 p2 p3 p4 1 0) ∨ (E = "java/lang/IndexOutOfBoundsException" ∧ zS_equivalence p0 p1 p2 p3 p4 2 0) ∨ (E = "java/lang/IllegalStateException" ∧ zS_equivalence p0 p1 p2 p3 p4 3 0)) (va_A [((h 0), .inr (11, [.ref (h 1), .ref (h 9), .int 0, .int 0, .ref (h 20), .ref (h 37), .int 0, .ref (h 38), .ref (h 42), .ref (h 43), .ref (h 44), .ref (h 45), .ref (h 46), .ref (h 47), .ref (h 48)])), ((h 1), .inr (8, [.ref (h 2), .int 0, .ref (h 3), .ref (h 4), .int 0, .ref (h 5), .int 0, .ref (h 6), .int 0, .ref (h 7), .int 0])), ((h 3), .inl ((cs 9), 10, .inr (.inr (.inr (.inr (fun _ => none))))))] sz)) 7 45 (va_A [((h 0), .inr (11, [.ref (h 1), .ref (h 9), .int 0, .int 0, .ref (h 20), .ref (h 37), .int 0, .ref (h 38), .ref (h 42), .ref (h 43), .ref (h 44), .ref (h 45), .ref (h 46), .ref (h 47), .ref (h 48)])), ((h 1), .inr (8, [.ref (h 2), .int 0, .ref (h 3), .ref (h 4), .int 0, .ref (h 5), .int 0, .ref (h 6), .int 0, .ref (h 7), .int 0])), ((h 3), .inl ((cs 9), 10, .inr (.inr (.inr (.inr (fun _ => none))))))] sz) := by
  refine vx_ofW (cc := cX11_equivalence) (maxL := 8) (ret := (some .int)) (by decide) rfl ?_
  intro p e s m args below meth c s₁ B hml hexc hv
  obtain ⟨rfl, hEx, hsz, hP, hK, hD0⟩ := hv
  have hx := B.exec
  have hb := B.bytes
  have hr := B.returns
  have hts := atoms_spec (ws := (.code yX11_equivalence cX11_equivalence 8 (some .int) :: zT)) B.pre
  have ht : ∀ w ∈ zT, w.before _ s = true := fun w h => hts w (List.mem_cons_of_mem _ h)
  have hown : s.vm.findClass RX11 = some m.cls := findClass_of_methodNamed B.named
  have hlocks := B.notSynchronized
  subst hsz
  have hD := hD0.self (sz := s.heap.size)
  generalize hAe : va_A [((h 0), .inr (11, [.ref (h 1), .ref (h 9), .int 0, .int 0, .ref (h 20), .ref (h 37), .int 0, .ref (h 38), .ref (h 42), .ref (h 43), .ref (h 44), .ref (h 45), .ref (h 46), .ref (h 47), .ref (h 48)])), ((h 1), .inr (8, [.ref (h 2), .int 0, .ref (h 3), .ref (h 4), .int 0, .ref (h 5), .int 0, .ref (h 6), .int 0, .ref (h 7), .int 0])), ((h 3), .inl ((cs 9), 10, .inr (.inr (.inr (.inr (fun _ => none))))))] s.heap.size = A at hD hEx ⊢
  have hA : ∀ q : Nat, s.heap.size ≤ q → A q := fun q h => by rw [← hAe]; exact Or.inr h
  have hS : va_S A s.heap s.heap [] := va_S.rf
  have hP : va_P D vwCl [((h 0), .inr (11, [.ref (h 1), .ref (h 9), .int 0, .int 0, .ref (h 20), .ref (h 37), .int 0, .ref (h 38), .ref (h 42), .ref (h 43), .ref (h 44), .ref (h 45), .ref (h 46), .ref (h 47), .ref (h 48)])), ((h 1), .inr (8, [.ref (h 2), .int 0, .ref (h 3), .ref (h 4), .int 0, .ref (h 5), .int 0, .ref (h 6), .int 0, .ref (h 7), .int 0])), ((h 3), .inl ((cs 9), 10, .inr (.inr (.inr (.inr (fun _ => none))))))] s.heap := hP
  have hl := lv_entry ([.ref (h 0), .int p0, .int p1, .int p2, .int p3, .int p4]) (n := 8) (Nat.le_of_ble_eq_true rfl)
  rw [lg_entry_eq]
  generalize (lg_sl ([.ref (h 0), .int p0, .int p1, .int p2, .int p3, .int p4]) ++ List.replicate (8 - (lg_sl ([.ref (h 0), .int p0, .int p1, .int p2, .int p3, .int p4])).length) Slot.unset).toArray = ls at hl ⊢
  have hl : lv_has ls 8 [(0, .ref (h 0)), (1, .int p0), (2, .int p1), (3, .int p2), (4, .int p3), (5, .int p4)] := hl
  skip
  refine lv_iload_n hx hb dX11_equivalence_0 rfl (lv_at hl 1 rfl) ?_
  refine lv_bipush (v := 99) hx hb dX11_equivalence_1 (by decide) ?_
  have hPc := hP.sub (ws' := []) [] rfl
  have hDc := hD.sub (ws' := []) [] (by decide) rfl
  have hKc := hK.sub (tys' := []) [] rfl
  have hFc := va_free (wc := []) hD hS hA [] rfl
  refine vx_callv (vx_runS (As := [.int p0, .int 99]) (rest := []) ⟨hx, hb, hml, hown, ht⟩ (k_X11_checkNumber l hl0 _ D p0 99) (va_cwS 2 ht (zG_S zw_410 zw_411 zw_404 zw_412) rfl rfl rfl (by decide +kernel) ⟨Nat.le_of_ble_eq_true rfl, Nat.le_of_ble_eq_true rfl⟩) (zW_S hEx hS hFc hPc hKc hDc) rfl rfl hl.1 rfl (lv_room (Nat.le_of_ble_eq_true rfl)) dX11_equivalence_3 ⟨Nat.le_of_ble_eq_true rfl, Nat.le_of_ble_eq_true rfl⟩) hS (fun q _ h => hFc q h) hFc (fun q _ h => hFc q h) (fun E ce q9 uu t H1 locs1 ht0 hvm hpx hB hz1 hk1 hS hcell hv hcl => ?_) (fun u_1 t H1 locs ht0 hvm hw_1 hB hz1 hk1 hS => ?_)
  · exact vx_out (fun x hx => (hexc x hx).elim) hlocks hcell hv hcl (fun t2 h2 hv2 => ⟨(), trivial, (by obtain ⟨hE, hb9⟩ := hB; (try simp only [Int32.reduceToInt] at hb9); exact .inl ⟨hE, (show zS_equivalence p0 p1 p2 p3 p4 1 0 from (.inl ⟨rfl, by omega⟩))⟩), hS.F h2⟩) hS.2.2 (Nat.le_of_ble_eq_true rfl) (Nat.le_of_ble_eq_true rfl)
  obtain ⟨hP1, hK1, hD1⟩ := hB
  rw [ht0] at hP1
  have hK1 := va_K.moved hvm.symm hK1
  obtain ⟨hP, hD⟩ := va_join (wr := [((h 0), .inr (11, [.ref (h 1), .ref (h 9), .int 0, .int 0, .ref (h 20), .ref (h 37), .int 0, .ref (h 38), .ref (h 42), .ref (h 43), .ref (h 44), .ref (h 45), .ref (h 46), .ref (h 47), .ref (h 48)])), ((h 1), .inr (8, [.ref (h 2), .int 0, .ref (h 3), .ref (h 4), .int 0, .ref (h 5), .int 0, .ref (h 6), .int 0, .ref (h 7), .int 0])), ((h 3), .inl ((cs 9), 10, .inr (.inr (.inr (.inr (fun _ => none))))))]) (w1 := []) hP hD [] [0, 1, 2] rfl rfl (by decide) (by decide) hk1 hFc hP1 hD1
  generalize H1 = H at hP hS ⊢
  have hP : va_P D vwCl [((h 0), .inr (11, [.ref (h 1), .ref (h 9), .int 0, .int 0, .ref (h 20), .ref (h 37), .int 0, .ref (h 38), .ref (h 42), .ref (h 43), .ref (h 44), .ref (h 45), .ref (h 46), .ref (h 47), .ref (h 48)])), ((h 1), .inr (8, [.ref (h 2), .int 0, .ref (h 3), .ref (h 4), .int 0, .ref (h 5), .int 0, .ref (h 6), .int 0, .ref (h 7), .int 0])), ((h 3), .inl ((cs 9), 10, .inr (.inr (.inr (.inr (fun _ => none))))))] H := hP
  have hD : va_D A [((h 0), .inr (11, [.ref (h 1), .ref (h 9), .int 0, .int 0, .ref (h 20), .ref (h 37), .int 0, .ref (h 38), .ref (h 42), .ref (h 43), .ref (h 44), .ref (h 45), .ref (h 46), .ref (h 47), .ref (h 48)])), ((h 1), .inr (8, [.ref (h 2), .int 0, .ref (h 3), .ref (h 4), .int 0, .ref (h 5), .int 0, .ref (h 6), .int 0, .ref (h 7), .int 0])), ((h 3), .inl ((cs 9), 10, .inr (.inr (.inr (.inr (fun _ => none))))))] := hD
  refine W.widen (k := 1) (n := 6) (Nat.le_of_ble_eq_true rfl) (Nat.le_of_ble_eq_true rfl) ?_
  simp only [Int32.reduceToInt] at hw_1
  refine lv_iload_n hx hb dX11_equivalence_6 rfl (lv_at hl 2 rfl) ?_
  refine lv_bipush (v := 10) hx hb dX11_equivalence_7 (by decide) ?_
  have hPc := hP.sub (ws' := []) [] rfl
  have hDc := hD.sub (ws' := []) [] (by decide) rfl
  have hKc := hK.sub (tys' := []) [] rfl
  have hFc := va_free (wc := []) hD hS hA [] rfl
  refine vx_callv (vx_runS (As := [.int p1, .int 10]) (rest := []) ⟨hx, hb, hml, hown, ht⟩ (k_X11_checkIndex l hl0 _ D p1 10) (va_cwS 2 ht (zG_S zw_402 zw_403 zw_404 zw_405) rfl rfl rfl (by decide +kernel) ⟨Nat.le_of_ble_eq_true rfl, Nat.le_of_ble_eq_true rfl⟩) (zW_S hEx hS hFc hPc hKc hDc) rfl rfl hl.1 rfl (lv_room (Nat.le_of_ble_eq_true rfl)) dX11_equivalence_9 ⟨Nat.le_of_ble_eq_true rfl, Nat.le_of_ble_eq_true rfl⟩) hS (fun q _ h => hFc q h) hFc (fun q _ h => hFc q h) (fun E ce q9 uu t H1 locs1 ht0 hvm hpx hB hz1 hk1 hS hcell hv hcl => ?_) (fun u_2 t H1 locs ht0 hvm hw_2 hB hz1 hk1 hS => ?_)
  · exact vx_out (fun x hx => (hexc x hx).elim) hlocks hcell hv hcl (fun t2 h2 hv2 => ⟨(), trivial, (by obtain ⟨hE, hb9⟩ := hB; (try simp only [Int32.reduceToInt] at hb9); exact .inr (.inl ⟨hE, (show zS_equivalence p0 p1 p2 p3 p4 2 0 from (.inr (.inl ⟨rfl, by omega⟩)))⟩)), hS.F h2⟩) hS.2.2 (Nat.le_of_ble_eq_true rfl) (Nat.le_of_ble_eq_true rfl)
  obtain ⟨hP1, hK1, hD1⟩ := hB
  rw [ht0] at hP1
  have hK1 := va_K.moved hvm.symm hK1
  obtain ⟨hP, hD⟩ := va_join (wr := [((h 0), .inr (11, [.ref (h 1), .ref (h 9), .int 0, .int 0, .ref (h 20), .ref (h 37), .int 0, .ref (h 38), .ref (h 42), .ref (h 43), .ref (h 44), .ref (h 45), .ref (h 46), .ref (h 47), .ref (h 48)])), ((h 1), .inr (8, [.ref (h 2), .int 0, .ref (h 3), .ref (h 4), .int 0, .ref (h 5), .int 0, .ref (h 6), .int 0, .ref (h 7), .int 0])), ((h 3), .inl ((cs 9), 10, .inr (.inr (.inr (.inr (fun _ => none))))))]) (w1 := []) hP hD [] [0, 1, 2] rfl rfl (by decide) (by decide) hk1 hFc hP1 hD1
  generalize H1 = H at hP hS ⊢
  have hP : va_P D vwCl [((h 0), .inr (11, [.ref (h 1), .ref (h 9), .int 0, .int 0, .ref (h 20), .ref (h 37), .int 0, .ref (h 38), .ref (h 42), .ref (h 43), .ref (h 44), .ref (h 45), .ref (h 46), .ref (h 47), .ref (h 48)])), ((h 1), .inr (8, [.ref (h 2), .int 0, .ref (h 3), .ref (h 4), .int 0, .ref (h 5), .int 0, .ref (h 6), .int 0, .ref (h 7), .int 0])), ((h 3), .inl ((cs 9), 10, .inr (.inr (.inr (.inr (fun _ => none))))))] H := hP
  have hD : va_D A [((h 0), .inr (11, [.ref (h 1), .ref (h 9), .int 0, .int 0, .ref (h 20), .ref (h 37), .int 0, .ref (h 38), .ref (h 42), .ref (h 43), .ref (h 44), .ref (h 45), .ref (h 46), .ref (h 47), .ref (h 48)])), ((h 1), .inr (8, [.ref (h 2), .int 0, .ref (h 3), .ref (h 4), .int 0, .ref (h 5), .int 0, .ref (h 6), .int 0, .ref (h 7), .int 0])), ((h 3), .inl ((cs 9), 10, .inr (.inr (.inr (.inr (fun _ => none))))))] := hD
  refine W.widen (k := 2) (n := 12) (Nat.le_of_ble_eq_true rfl) (Nat.le_of_ble_eq_true rfl) ?_
  simp only [Int32.reduceToInt] at hw_2
  refine lv_iload_n hx hb dX11_equivalence_12 rfl (lv_at hl 3 rfl) ?_
  refine lv_bipush (v := 10) hx hb dX11_equivalence_13 (by decide) ?_
  have hPc := hP.sub (ws' := []) [] rfl
  have hDc := hD.sub (ws' := []) [] (by decide) rfl
  have hKc := hK.sub (tys' := []) [] rfl
  have hFc := va_free (wc := []) hD hS hA [] rfl
  refine vx_callv (vx_runS (As := [.int p2, .int 10]) (rest := []) ⟨hx, hb, hml, hown, ht⟩ (k_X11_checkIndex l hl0 _ D p2 10) (va_cwS 2 ht (zG_S zw_402 zw_403 zw_404 zw_405) rfl rfl rfl (by decide +kernel) ⟨Nat.le_of_ble_eq_true rfl, Nat.le_of_ble_eq_true rfl⟩) (zW_S hEx hS hFc hPc hKc hDc) rfl rfl hl.1 rfl (lv_room (Nat.le_of_ble_eq_true rfl)) dX11_equivalence_15 ⟨Nat.le_of_ble_eq_true rfl, Nat.le_of_ble_eq_true rfl⟩) hS (fun q _ h => hFc q h) hFc (fun q _ h => hFc q h) (fun E ce q9 uu t H1 locs1 ht0 hvm hpx hB hz1 hk1 hS hcell hv hcl => ?_) (fun u_3 t H1 locs ht0 hvm hw_3 hB hz1 hk1 hS => ?_)
  · exact vx_out (fun x hx => (hexc x hx).elim) hlocks hcell hv hcl (fun t2 h2 hv2 => ⟨(), trivial, (by obtain ⟨hE, hb9⟩ := hB; (try simp only [Int32.reduceToInt] at hb9); exact .inr (.inl ⟨hE, (show zS_equivalence p0 p1 p2 p3 p4 2 0 from (.inr (.inl ⟨rfl, by omega⟩)))⟩)), hS.F h2⟩) hS.2.2 (Nat.le_of_ble_eq_true rfl) (Nat.le_of_ble_eq_true rfl)
  obtain ⟨hP1, hK1, hD1⟩ := hB
  rw [ht0] at hP1
  have hK1 := va_K.moved hvm.symm hK1
  obtain ⟨hP, hD⟩ := va_join (wr := [((h 0), .inr (11, [.ref (h 1), .ref (h 9), .int 0, .int 0, .ref (h 20), .ref (h 37), .int 0, .ref (h 38), .ref (h 42), .ref (h 43), .ref (h 44), .ref (h 45), .ref (h 46), .ref (h 47), .ref (h 48)])), ((h 1), .inr (8, [.ref (h 2), .int 0, .ref (h 3), .ref (h 4), .int 0, .ref (h 5), .int 0, .ref (h 6), .int 0, .ref (h 7), .int 0])), ((h 3), .inl ((cs 9), 10, .inr (.inr (.inr (.inr (fun _ => none))))))]) (w1 := []) hP hD [] [0, 1, 2] rfl rfl (by decide) (by decide) hk1 hFc hP1 hD1
  generalize H1 = H at hP hS ⊢
  have hP : va_P D vwCl [((h 0), .inr (11, [.ref (h 1), .ref (h 9), .int 0, .int 0, .ref (h 20), .ref (h 37), .int 0, .ref (h 38), .ref (h 42), .ref (h 43), .ref (h 44), .ref (h 45), .ref (h 46), .ref (h 47), .ref (h 48)])), ((h 1), .inr (8, [.ref (h 2), .int 0, .ref (h 3), .ref (h 4), .int 0, .ref (h 5), .int 0, .ref (h 6), .int 0, .ref (h 7), .int 0])), ((h 3), .inl ((cs 9), 10, .inr (.inr (.inr (.inr (fun _ => none))))))] H := hP
  have hD : va_D A [((h 0), .inr (11, [.ref (h 1), .ref (h 9), .int 0, .int 0, .ref (h 20), .ref (h 37), .int 0, .ref (h 38), .ref (h 42), .ref (h 43), .ref (h 44), .ref (h 45), .ref (h 46), .ref (h 47), .ref (h 48)])), ((h 1), .inr (8, [.ref (h 2), .int 0, .ref (h 3), .ref (h 4), .int 0, .ref (h 5), .int 0, .ref (h 6), .int 0, .ref (h 7), .int 0])), ((h 3), .inl ((cs 9), 10, .inr (.inr (.inr (.inr (fun _ => none))))))] := hD
  refine W.widen (k := 3) (n := 18) (Nat.le_of_ble_eq_true rfl) (Nat.le_of_ble_eq_true rfl) ?_
  simp only [Int32.reduceToInt] at hw_3
  refine lv_iload hx hb dX11_equivalence_18 (lv_at hl 4 rfl) ?_
  refine lv_bipush (v := 10) hx hb dX11_equivalence_20 (by decide) ?_
  have hPc := hP.sub (ws' := []) [] rfl
  have hDc := hD.sub (ws' := []) [] (by decide) rfl
  have hKc := hK.sub (tys' := []) [] rfl
  have hFc := va_free (wc := []) hD hS hA [] rfl
  refine vx_callv (vx_runS (As := [.int p3, .int 10]) (rest := []) ⟨hx, hb, hml, hown, ht⟩ (k_X11_checkIndex l hl0 _ D p3 10) (va_cwS 2 ht (zG_S zw_402 zw_403 zw_404 zw_405) rfl rfl rfl (by decide +kernel) ⟨Nat.le_of_ble_eq_true rfl, Nat.le_of_ble_eq_true rfl⟩) (zW_S hEx hS hFc hPc hKc hDc) rfl rfl hl.1 rfl (lv_room (Nat.le_of_ble_eq_true rfl)) dX11_equivalence_22 ⟨Nat.le_of_ble_eq_true rfl, Nat.le_of_ble_eq_true rfl⟩) hS (fun q _ h => hFc q h) hFc (fun q _ h => hFc q h) (fun E ce q9 uu t H1 locs1 ht0 hvm hpx hB hz1 hk1 hS hcell hv hcl => ?_) (fun u_4 t H1 locs ht0 hvm hw_4 hB hz1 hk1 hS => ?_)
  · exact vx_out (fun x hx => (hexc x hx).elim) hlocks hcell hv hcl (fun t2 h2 hv2 => ⟨(), trivial, (by obtain ⟨hE, hb9⟩ := hB; (try simp only [Int32.reduceToInt] at hb9); exact .inr (.inl ⟨hE, (show zS_equivalence p0 p1 p2 p3 p4 2 0 from (.inr (.inl ⟨rfl, by omega⟩)))⟩)), hS.F h2⟩) hS.2.2 (Nat.le_of_ble_eq_true rfl) (Nat.le_of_ble_eq_true rfl)
  obtain ⟨hP1, hK1, hD1⟩ := hB
  rw [ht0] at hP1
  have hK1 := va_K.moved hvm.symm hK1
  obtain ⟨hP, hD⟩ := va_join (wr := [((h 0), .inr (11, [.ref (h 1), .ref (h 9), .int 0, .int 0, .ref (h 20), .ref (h 37), .int 0, .ref (h 38), .ref (h 42), .ref (h 43), .ref (h 44), .ref (h 45), .ref (h 46), .ref (h 47), .ref (h 48)])), ((h 1), .inr (8, [.ref (h 2), .int 0, .ref (h 3), .ref (h 4), .int 0, .ref (h 5), .int 0, .ref (h 6), .int 0, .ref (h 7), .int 0])), ((h 3), .inl ((cs 9), 10, .inr (.inr (.inr (.inr (fun _ => none))))))]) (w1 := []) hP hD [] [0, 1, 2] rfl rfl (by decide) (by decide) hk1 hFc hP1 hD1
  generalize H1 = H at hP hS ⊢
  have hP : va_P D vwCl [((h 0), .inr (11, [.ref (h 1), .ref (h 9), .int 0, .int 0, .ref (h 20), .ref (h 37), .int 0, .ref (h 38), .ref (h 42), .ref (h 43), .ref (h 44), .ref (h 45), .ref (h 46), .ref (h 47), .ref (h 48)])), ((h 1), .inr (8, [.ref (h 2), .int 0, .ref (h 3), .ref (h 4), .int 0, .ref (h 5), .int 0, .ref (h 6), .int 0, .ref (h 7), .int 0])), ((h 3), .inl ((cs 9), 10, .inr (.inr (.inr (.inr (fun _ => none))))))] H := hP
  have hD : va_D A [((h 0), .inr (11, [.ref (h 1), .ref (h 9), .int 0, .int 0, .ref (h 20), .ref (h 37), .int 0, .ref (h 38), .ref (h 42), .ref (h 43), .ref (h 44), .ref (h 45), .ref (h 46), .ref (h 47), .ref (h 48)])), ((h 1), .inr (8, [.ref (h 2), .int 0, .ref (h 3), .ref (h 4), .int 0, .ref (h 5), .int 0, .ref (h 6), .int 0, .ref (h 7), .int 0])), ((h 3), .inl ((cs 9), 10, .inr (.inr (.inr (.inr (fun _ => none))))))] := hD
  refine W.widen (k := 4) (n := 24) (Nat.le_of_ble_eq_true rfl) (Nat.le_of_ble_eq_true rfl) ?_
  simp only [Int32.reduceToInt] at hw_4
  refine lv_iload hx hb dX11_equivalence_25 (lv_at hl 5 rfl) ?_
  refine lv_bipush (v := 10) hx hb dX11_equivalence_27 (by decide) ?_
  have hPc := hP.sub (ws' := []) [] rfl
  have hDc := hD.sub (ws' := []) [] (by decide) rfl
  have hKc := hK.sub (tys' := []) [] rfl
  have hFc := va_free (wc := []) hD hS hA [] rfl
  refine vx_callv (vx_runS (As := [.int p4, .int 10]) (rest := []) ⟨hx, hb, hml, hown, ht⟩ (k_X11_checkIndex l hl0 _ D p4 10) (va_cwS 2 ht (zG_S zw_402 zw_403 zw_404 zw_405) rfl rfl rfl (by decide +kernel) ⟨Nat.le_of_ble_eq_true rfl, Nat.le_of_ble_eq_true rfl⟩) (zW_S hEx hS hFc hPc hKc hDc) rfl rfl hl.1 rfl (lv_room (Nat.le_of_ble_eq_true rfl)) dX11_equivalence_29 ⟨Nat.le_of_ble_eq_true rfl, Nat.le_of_ble_eq_true rfl⟩) hS (fun q _ h => hFc q h) hFc (fun q _ h => hFc q h) (fun E ce q9 uu t H1 locs1 ht0 hvm hpx hB hz1 hk1 hS hcell hv hcl => ?_) (fun u_5 t H1 locs ht0 hvm hw_5 hB hz1 hk1 hS => ?_)
  · exact vx_out (fun x hx => (hexc x hx).elim) hlocks hcell hv hcl (fun t2 h2 hv2 => ⟨(), trivial, (by obtain ⟨hE, hb9⟩ := hB; (try simp only [Int32.reduceToInt] at hb9); exact .inr (.inl ⟨hE, (show zS_equivalence p0 p1 p2 p3 p4 2 0 from (.inr (.inl ⟨rfl, by omega⟩)))⟩)), hS.F h2⟩) hS.2.2 (Nat.le_of_ble_eq_true rfl) (Nat.le_of_ble_eq_true rfl)
  obtain ⟨hP1, hK1, hD1⟩ := hB
  rw [ht0] at hP1
  have hK1 := va_K.moved hvm.symm hK1
  obtain ⟨hP, hD⟩ := va_join (wr := [((h 0), .inr (11, [.ref (h 1), .ref (h 9), .int 0, .int 0, .ref (h 20), .ref (h 37), .int 0, .ref (h 38), .ref (h 42), .ref (h 43), .ref (h 44), .ref (h 45), .ref (h 46), .ref (h 47), .ref (h 48)])), ((h 1), .inr (8, [.ref (h 2), .int 0, .ref (h 3), .ref (h 4), .int 0, .ref (h 5), .int 0, .ref (h 6), .int 0, .ref (h 7), .int 0])), ((h 3), .inl ((cs 9), 10, .inr (.inr (.inr (.inr (fun _ => none))))))]) (w1 := []) hP hD [] [0, 1, 2] rfl rfl (by decide) (by decide) hk1 hFc hP1 hD1
  generalize H1 = H at hP hS ⊢
  have hP : va_P D vwCl [((h 0), .inr (11, [.ref (h 1), .ref (h 9), .int 0, .int 0, .ref (h 20), .ref (h 37), .int 0, .ref (h 38), .ref (h 42), .ref (h 43), .ref (h 44), .ref (h 45), .ref (h 46), .ref (h 47), .ref (h 48)])), ((h 1), .inr (8, [.ref (h 2), .int 0, .ref (h 3), .ref (h 4), .int 0, .ref (h 5), .int 0, .ref (h 6), .int 0, .ref (h 7), .int 0])), ((h 3), .inl ((cs 9), 10, .inr (.inr (.inr (.inr (fun _ => none))))))] H := hP
  have hD : va_D A [((h 0), .inr (11, [.ref (h 1), .ref (h 9), .int 0, .int 0, .ref (h 20), .ref (h 37), .int 0, .ref (h 38), .ref (h 42), .ref (h 43), .ref (h 44), .ref (h 45), .ref (h 46), .ref (h 47), .ref (h 48)])), ((h 1), .inr (8, [.ref (h 2), .int 0, .ref (h 3), .ref (h 4), .int 0, .ref (h 5), .int 0, .ref (h 6), .int 0, .ref (h 7), .int 0])), ((h 3), .inl ((cs 9), 10, .inr (.inr (.inr (.inr (fun _ => none))))))] := hD
  refine W.widen (k := 5) (n := 30) (Nat.le_of_ble_eq_true rfl) (Nat.le_of_ble_eq_true rfl) ?_
  simp only [Int32.reduceToInt] at hw_5
  refine va_new (ci := 4) (fs := [.int 0, .null, .int 0, .null, .int 0, .int 0, .int 0, .null, .null]) (C := RX4) (T := TX4) (N := 9) hx hb ht zinX4 tyX4 tyX4_ok hown (ht _ zw_422) (ht _ zw_423) (ht _ zw_424) hK hP hD hS hA rfl (fun j hj => by rcases (show j = 0 ∨ j = 1 ∨ j = 2 ∨ j = 3 ∨ j = 4 ∨ j = 5 ∨ j = 6 ∨ j = 7 ∨ j = 8 by omega) with rfl | rfl | rfl | rfl | rfl | rfl | rfl | rfl | rfl <;> rfl) (Nat.le_of_ble_eq_true rfl) (Nat.le_of_ble_eq_true rfl) dX11_equivalence_32 (fun q_6 H hP hD hS => ?_)
  have hP : va_P D vwCl [((h 0), .inr (11, [.ref (h 1), .ref (h 9), .int 0, .int 0, .ref (h 20), .ref (h 37), .int 0, .ref (h 38), .ref (h 42), .ref (h 43), .ref (h 44), .ref (h 45), .ref (h 46), .ref (h 47), .ref (h 48)])), ((h 1), .inr (8, [.ref (h 2), .int 0, .ref (h 3), .ref (h 4), .int 0, .ref (h 5), .int 0, .ref (h 6), .int 0, .ref (h 7), .int 0])), ((h 3), .inl ((cs 9), 10, .inr (.inr (.inr (.inr (fun _ => none)))))), (q_6, .inr (4, [.int 0, .null, .int 0, .null, .int 0, .int 0, .int 0, .null, .null]))] H := hP
  have hD : va_D A [((h 0), .inr (11, [.ref (h 1), .ref (h 9), .int 0, .int 0, .ref (h 20), .ref (h 37), .int 0, .ref (h 38), .ref (h 42), .ref (h 43), .ref (h 44), .ref (h 45), .ref (h 46), .ref (h 47), .ref (h 48)])), ((h 1), .inr (8, [.ref (h 2), .int 0, .ref (h 3), .ref (h 4), .int 0, .ref (h 5), .int 0, .ref (h 6), .int 0, .ref (h 7), .int 0])), ((h 3), .inl ((cs 9), 10, .inr (.inr (.inr (.inr (fun _ => none)))))), (q_6, .inr (4, [.int 0, .null, .int 0, .null, .int 0, .int 0, .int 0, .null, .null]))] := hD
  refine W.widen (k := 6) (n := 39) (Nat.le_of_ble_eq_true rfl) (Nat.le_of_ble_eq_true rfl) ?_
  refine lv_dup hx hb dX11_equivalence_35 rfl ?_
  refine lv_iload_n hx hb dX11_equivalence_36 rfl (lv_at hl 1 rfl) ?_
  refine lv_aload_n hx hb dX11_equivalence_37 rfl (lv_at hl 0 rfl) ?_
  refine lv_iload_n hx hb dX11_equivalence_38 rfl (lv_at hl 2 rfl) ?_
  have hPc := hP.sub (ws' := [((h 0), .inr (11, [.ref (h 1), .ref (h 9), .int 0, .int 0, .ref (h 20), .ref (h 37), .int 0, .ref (h 38), .ref (h 42), .ref (h 43), .ref (h 44), .ref (h 45), .ref (h 46), .ref (h 47), .ref (h 48)])), ((h 1), .inr (8, [.ref (h 2), .int 0, .ref (h 3), .ref (h 4), .int 0, .ref (h 5), .int 0, .ref (h 6), .int 0, .ref (h 7), .int 0])), ((h 3), .inl ((cs 9), 10, .inr (.inr (.inr (.inr (fun _ => none))))))]) [0, 1, 2] rfl
  have hDc := hD.sub (ws' := [((h 0), .inr (11, [.ref (h 1), .ref (h 9), .int 0, .int 0, .ref (h 20), .ref (h 37), .int 0, .ref (h 38), .ref (h 42), .ref (h 43), .ref (h 44), .ref (h 45), .ref (h 46), .ref (h 47), .ref (h 48)])), ((h 1), .inr (8, [.ref (h 2), .int 0, .ref (h 3), .ref (h 4), .int 0, .ref (h 5), .int 0, .ref (h 6), .int 0, .ref (h 7), .int 0])), ((h 3), .inl ((cs 9), 10, .inr (.inr (.inr (.inr (fun _ => none))))))]) [0, 1, 2] (by decide) rfl
  have hKc := hK.sub (tys' := [((cs 9), .object RX9)]) [0] rfl
  have hFc := va_free (wc := [((h 0), .inr (11, [.ref (h 1), .ref (h 9), .int 0, .int 0, .ref (h 20), .ref (h 37), .int 0, .ref (h 38), .ref (h 42), .ref (h 43), .ref (h 44), .ref (h 45), .ref (h 46), .ref (h 47), .ref (h 48)])), ((h 1), .inr (8, [.ref (h 2), .int 0, .ref (h 3), .ref (h 4), .int 0, .ref (h 5), .int 0, .ref (h 6), .int 0, .ref (h 7), .int 0])), ((h 3), .inl ((cs 9), 10, .inr (.inr (.inr (.inr (fun _ => none))))))]) hD hS hA [0, 1, 2] rfl
  refine vx_callq (vx_runV (As := [.int p1]) (rest := [.int p0, .ref q_6, .ref q_6]) ⟨hx, hb, hml, hown, ht⟩ (k_X11_filled l hl0 _ D h cs p1 hw_2) (cwV 1 ht (zG_V zw_406 zw_407 zw_408 zw_404 zw_409) rfl rfl rfl (by decide +kernel) ⟨Nat.le_of_ble_eq_true rfl, Nat.le_of_ble_eq_true rfl⟩) (zW_V (va_recv hK hP (ci := 11) (q0 := 0) rfl rfl) hEx hS hFc hPc hKc hDc) rfl rfl hl.1 rfl (lv_room (Nat.le_of_ble_eq_true rfl)) dX11_equivalence_39 ⟨Nat.le_of_ble_eq_true rfl, Nat.le_of_ble_eq_true rfl⟩) hS (fun q _ h => hFc q h) hFc (fun q _ h => hFc q h) (fun E ce q9 uu t H1 locs1 ht0 hvm hpx hB hz1 hk1 hS hcell hv hcl => ?_) (fun r_7 u_7 t H1 locs ht0 hvm hw_7 hB hz1 hk1 hS => ?_)
  · exact vx_out (fun x hx => (hexc x hx).elim) hlocks hcell hv hcl (fun t2 h2 hv2 => ⟨(), trivial, (by obtain ⟨hE, hb9⟩ := hB; (try simp only [Int32.reduceToInt] at hb9); exact .inr (.inr (⟨hE, (show zS_equivalence p0 p1 p2 p3 p4 3 0 from (.inr (.inr ⟨rfl, by omega⟩)))⟩))), hS.F h2⟩) hS.2.2 (Nat.le_of_ble_eq_true rfl) (Nat.le_of_ble_eq_true rfl)
  exact hw_7.elim
set_option maxHeartbeats 4000000 in
set_option maxRecDepth 100000 in
theorem k_X11_assume (l : Launch) (hl0 : l.stackTraces = false) (sz : Nat) (D : va_G) (h cs : Nat → Nat) (p0 p1 : Int32) : vx_Met l yX11_assume (.code yX11_assume cX11_assume 6 (some .int) :: zT) ({ frames := 7, cells := 3, slots := 18, locals := 112 }) (va_Pc [.ref (h 0), .int p0, .int p1] (zW D [((h 0), .inr (11, [.ref (h 1), .ref (h 9), .int 0, .int 0, .ref (h 20), .ref (h 37), .int 0, .ref (h 38), .ref (h 42), .ref (h 43), .ref (h 44), .ref (h 45), .ref (h 46), .ref (h 47), .ref (h 48)])), ((h 1), .inr (8, [.ref (h 2), .int 0, .ref (h 3), .ref (h 4), .int 0, .ref (h 5), .int 0, .ref (h 6), .int 0, .ref (h 7), .int 0])), ((h 3), .inl ((cs 9), 10, .inr (.inr (.inr (.inr (fun _ => none))))))] [((cs 9), .object RX9)] sz)) (va_Qi (fun (r : Int32) (_ : Unit) => zS_assume p0 p1 0 r) (fun _ t => zE D [] [] (va_A [((h 0), .inr (11, [.ref (h 1), .ref (h 9), .int 0, .int 0, .ref (h 20), .ref (h 37), .int 0, .ref (h 38), .ref (h 42), .ref (h 43), .ref (h 44), .ref (h 45), .ref (h 46), .ref (h 47), .ref (h 48)])), ((h 1), .inr (8, [.ref (h 2), .int 0, .ref (h 3), .ref (h 4), .int 0, .ref (h 5), .int 0, .ref (h 6), .int 0, .ref (h 7), .int 0])), ((h 3), .inl ((cs 9), 10, .inr (.inr (.inr (.inr (fun _ => none))))))] sz) t) (va_A [((h 0), .inr (11, [.ref (h 1), .ref (h 9), .int 0, .int 0, .ref (h 20), .ref (h 37), .int 0, .ref (h 38), .ref (h 42), .ref (h 43), .ref (h 44), .ref (h 45), .ref (h 46), .ref (h 47), .ref (h 48)])), ((h 1), .inr (8, [.ref (h 2), .int 0, .ref (h 3), .ref (h 4), .int 0, .ref (h 5), .int 0, .ref (h 6), .int 0, .ref (h 7), .int 0])), ((h 3), .inl ((cs 9), 10, .inr (.inr (.inr (.inr (fun _ => none))))))] sz)) (vx_X (fun _ : Unit => True) (fun E _ _ => (E = "java/lang/IndexOutOfBoundsException" ∧ zS_assume p0 p1 1 0) ∨ (E = "java/lang/IllegalStateException" ∧ zS_assume p0 p1 2 0)) (va_A [((h 0), .inr (11, [.ref (h 1), .ref (h 9), .int 0, .int 0, .ref (h 20), .ref (h 37), .int 0, .ref (h 38), .ref (h 42), .ref (h 43), .ref (h 44), .ref (h 45), .ref (h 46), .ref (h 47), .ref (h 48)])), ((h 1), .inr (8, [.ref (h 2), .int 0, .ref (h 3), .ref (h 4), .int 0, .ref (h 5), .int 0, .ref (h 6), .int 0, .ref (h 7), .int 0])), ((h 3), .inl ((cs 9), 10, .inr (.inr (.inr (.inr (fun _ => none))))))] sz)) 3 18 (va_A [((h 0), .inr (11, [.ref (h 1), .ref (h 9), .int 0, .int 0, .ref (h 20), .ref (h 37), .int 0, .ref (h 38), .ref (h 42), .ref (h 43), .ref (h 44), .ref (h 45), .ref (h 46), .ref (h 47), .ref (h 48)])), ((h 1), .inr (8, [.ref (h 2), .int 0, .ref (h 3), .ref (h 4), .int 0, .ref (h 5), .int 0, .ref (h 6), .int 0, .ref (h 7), .int 0])), ((h 3), .inl ((cs 9), 10, .inr (.inr (.inr (.inr (fun _ => none))))))] sz) := by
  refine vx_ofW (cc := cX11_assume) (maxL := 6) (ret := (some .int)) (by decide) rfl ?_
  intro p e s m args below meth c s₁ B hml hexc hv
  obtain ⟨rfl, hEx, hsz, hP, hK, hD0⟩ := hv
  have hx := B.exec
  have hb := B.bytes
  have hr := B.returns
  have hts := atoms_spec (ws := (.code yX11_assume cX11_assume 6 (some .int) :: zT)) B.pre
  have ht : ∀ w ∈ zT, w.before _ s = true := fun w h => hts w (List.mem_cons_of_mem _ h)
  have hown : s.vm.findClass RX11 = some m.cls := findClass_of_methodNamed B.named
  have hlocks := B.notSynchronized
  subst hsz
  have hD := hD0.self (sz := s.heap.size)
  generalize hAe : va_A [((h 0), .inr (11, [.ref (h 1), .ref (h 9), .int 0, .int 0, .ref (h 20), .ref (h 37), .int 0, .ref (h 38), .ref (h 42), .ref (h 43), .ref (h 44), .ref (h 45), .ref (h 46), .ref (h 47), .ref (h 48)])), ((h 1), .inr (8, [.ref (h 2), .int 0, .ref (h 3), .ref (h 4), .int 0, .ref (h 5), .int 0, .ref (h 6), .int 0, .ref (h 7), .int 0])), ((h 3), .inl ((cs 9), 10, .inr (.inr (.inr (.inr (fun _ => none))))))] s.heap.size = A at hD hEx ⊢
  have hA : ∀ q : Nat, s.heap.size ≤ q → A q := fun q h => by rw [← hAe]; exact Or.inr h
  have hS : va_S A s.heap s.heap [] := va_S.rf
  have hP : va_P D vwCl [((h 0), .inr (11, [.ref (h 1), .ref (h 9), .int 0, .int 0, .ref (h 20), .ref (h 37), .int 0, .ref (h 38), .ref (h 42), .ref (h 43), .ref (h 44), .ref (h 45), .ref (h 46), .ref (h 47), .ref (h 48)])), ((h 1), .inr (8, [.ref (h 2), .int 0, .ref (h 3), .ref (h 4), .int 0, .ref (h 5), .int 0, .ref (h 6), .int 0, .ref (h 7), .int 0])), ((h 3), .inl ((cs 9), 10, .inr (.inr (.inr (.inr (fun _ => none))))))] s.heap := hP
  have hl := lv_entry ([.ref (h 0), .int p0, .int p1]) (n := 6) (Nat.le_of_ble_eq_true rfl)
  rw [lg_entry_eq]
  generalize (lg_sl ([.ref (h 0), .int p0, .int p1]) ++ List.replicate (6 - (lg_sl ([.ref (h 0), .int p0, .int p1])).length) Slot.unset).toArray = ls at hl ⊢
  have hl : lv_has ls 6 [(0, .ref (h 0)), (1, .int p0), (2, .int p1)] := hl
  skip
  refine lv_iload_n hx hb dX11_assume_0 rfl (lv_at hl 1 rfl) ?_
  refine lv_bipush (v := 10) hx hb dX11_assume_1 (by decide) ?_
  have hPc := hP.sub (ws' := []) [] rfl
  have hDc := hD.sub (ws' := []) [] (by decide) rfl
  have hKc := hK.sub (tys' := []) [] rfl
  have hFc := va_free (wc := []) hD hS hA [] rfl
  refine vx_callv (vx_runS (As := [.int p0, .int 10]) (rest := []) ⟨hx, hb, hml, hown, ht⟩ (k_X11_checkIndex l hl0 _ D p0 10) (va_cwS 2 ht (zG_S zw_402 zw_403 zw_404 zw_405) rfl rfl rfl (by decide +kernel) ⟨Nat.le_of_ble_eq_true rfl, Nat.le_of_ble_eq_true rfl⟩) (zW_S hEx hS hFc hPc hKc hDc) rfl rfl hl.1 rfl (lv_room (Nat.le_of_ble_eq_true rfl)) dX11_assume_3 ⟨Nat.le_of_ble_eq_true rfl, Nat.le_of_ble_eq_true rfl⟩) hS (fun q _ h => hFc q h) hFc (fun q _ h => hFc q h) (fun E ce q9 uu t H1 locs1 ht0 hvm hpx hB hz1 hk1 hS hcell hv hcl => ?_) (fun u_1 t H1 locs ht0 hvm hw_1 hB hz1 hk1 hS => ?_)
  · exact vx_out (fun x hx => (hexc x hx).elim) hlocks hcell hv hcl (fun t2 h2 hv2 => ⟨(), trivial, (by obtain ⟨hE, hb9⟩ := hB; (try simp only [Int32.reduceToInt] at hb9); exact .inl ⟨hE, (show zS_assume p0 p1 1 0 from (.inl ⟨rfl, by omega⟩))⟩), hS.F h2⟩) hS.2.2 (Nat.le_of_ble_eq_true rfl) (Nat.le_of_ble_eq_true rfl)
  obtain ⟨hP1, hK1, hD1⟩ := hB
  rw [ht0] at hP1
  have hK1 := va_K.moved hvm.symm hK1
  obtain ⟨hP, hD⟩ := va_join (wr := [((h 0), .inr (11, [.ref (h 1), .ref (h 9), .int 0, .int 0, .ref (h 20), .ref (h 37), .int 0, .ref (h 38), .ref (h 42), .ref (h 43), .ref (h 44), .ref (h 45), .ref (h 46), .ref (h 47), .ref (h 48)])), ((h 1), .inr (8, [.ref (h 2), .int 0, .ref (h 3), .ref (h 4), .int 0, .ref (h 5), .int 0, .ref (h 6), .int 0, .ref (h 7), .int 0])), ((h 3), .inl ((cs 9), 10, .inr (.inr (.inr (.inr (fun _ => none))))))]) (w1 := []) hP hD [] [0, 1, 2] rfl rfl (by decide) (by decide) hk1 hFc hP1 hD1
  generalize H1 = H at hP hS ⊢
  have hP : va_P D vwCl [((h 0), .inr (11, [.ref (h 1), .ref (h 9), .int 0, .int 0, .ref (h 20), .ref (h 37), .int 0, .ref (h 38), .ref (h 42), .ref (h 43), .ref (h 44), .ref (h 45), .ref (h 46), .ref (h 47), .ref (h 48)])), ((h 1), .inr (8, [.ref (h 2), .int 0, .ref (h 3), .ref (h 4), .int 0, .ref (h 5), .int 0, .ref (h 6), .int 0, .ref (h 7), .int 0])), ((h 3), .inl ((cs 9), 10, .inr (.inr (.inr (.inr (fun _ => none))))))] H := hP
  have hD : va_D A [((h 0), .inr (11, [.ref (h 1), .ref (h 9), .int 0, .int 0, .ref (h 20), .ref (h 37), .int 0, .ref (h 38), .ref (h 42), .ref (h 43), .ref (h 44), .ref (h 45), .ref (h 46), .ref (h 47), .ref (h 48)])), ((h 1), .inr (8, [.ref (h 2), .int 0, .ref (h 3), .ref (h 4), .int 0, .ref (h 5), .int 0, .ref (h 6), .int 0, .ref (h 7), .int 0])), ((h 3), .inl ((cs 9), 10, .inr (.inr (.inr (.inr (fun _ => none))))))] := hD
  refine W.widen (k := 1) (n := 6) (Nat.le_of_ble_eq_true rfl) (Nat.le_of_ble_eq_true rfl) ?_
  simp only [Int32.reduceToInt] at hw_1
  refine lv_iload_n hx hb dX11_assume_6 rfl (lv_at hl 2 rfl) ?_
  refine lv_bipush (v := 10) hx hb dX11_assume_7 (by decide) ?_
  have hPc := hP.sub (ws' := []) [] rfl
  have hDc := hD.sub (ws' := []) [] (by decide) rfl
  have hKc := hK.sub (tys' := []) [] rfl
  have hFc := va_free (wc := []) hD hS hA [] rfl
  refine vx_callv (vx_runS (As := [.int p1, .int 10]) (rest := []) ⟨hx, hb, hml, hown, ht⟩ (k_X11_checkIndex l hl0 _ D p1 10) (va_cwS 2 ht (zG_S zw_402 zw_403 zw_404 zw_405) rfl rfl rfl (by decide +kernel) ⟨Nat.le_of_ble_eq_true rfl, Nat.le_of_ble_eq_true rfl⟩) (zW_S hEx hS hFc hPc hKc hDc) rfl rfl hl.1 rfl (lv_room (Nat.le_of_ble_eq_true rfl)) dX11_assume_9 ⟨Nat.le_of_ble_eq_true rfl, Nat.le_of_ble_eq_true rfl⟩) hS (fun q _ h => hFc q h) hFc (fun q _ h => hFc q h) (fun E ce q9 uu t H1 locs1 ht0 hvm hpx hB hz1 hk1 hS hcell hv hcl => ?_) (fun u_2 t H1 locs ht0 hvm hw_2 hB hz1 hk1 hS => ?_)
  · exact vx_out (fun x hx => (hexc x hx).elim) hlocks hcell hv hcl (fun t2 h2 hv2 => ⟨(), trivial, (by obtain ⟨hE, hb9⟩ := hB; (try simp only [Int32.reduceToInt] at hb9); exact .inl ⟨hE, (show zS_assume p0 p1 1 0 from (.inl ⟨rfl, by omega⟩))⟩), hS.F h2⟩) hS.2.2 (Nat.le_of_ble_eq_true rfl) (Nat.le_of_ble_eq_true rfl)
  obtain ⟨hP1, hK1, hD1⟩ := hB
  rw [ht0] at hP1
  have hK1 := va_K.moved hvm.symm hK1
  obtain ⟨hP, hD⟩ := va_join (wr := [((h 0), .inr (11, [.ref (h 1), .ref (h 9), .int 0, .int 0, .ref (h 20), .ref (h 37), .int 0, .ref (h 38), .ref (h 42), .ref (h 43), .ref (h 44), .ref (h 45), .ref (h 46), .ref (h 47), .ref (h 48)])), ((h 1), .inr (8, [.ref (h 2), .int 0, .ref (h 3), .ref (h 4), .int 0, .ref (h 5), .int 0, .ref (h 6), .int 0, .ref (h 7), .int 0])), ((h 3), .inl ((cs 9), 10, .inr (.inr (.inr (.inr (fun _ => none))))))]) (w1 := []) hP hD [] [0, 1, 2] rfl rfl (by decide) (by decide) hk1 hFc hP1 hD1
  generalize H1 = H at hP hS ⊢
  have hP : va_P D vwCl [((h 0), .inr (11, [.ref (h 1), .ref (h 9), .int 0, .int 0, .ref (h 20), .ref (h 37), .int 0, .ref (h 38), .ref (h 42), .ref (h 43), .ref (h 44), .ref (h 45), .ref (h 46), .ref (h 47), .ref (h 48)])), ((h 1), .inr (8, [.ref (h 2), .int 0, .ref (h 3), .ref (h 4), .int 0, .ref (h 5), .int 0, .ref (h 6), .int 0, .ref (h 7), .int 0])), ((h 3), .inl ((cs 9), 10, .inr (.inr (.inr (.inr (fun _ => none))))))] H := hP
  have hD : va_D A [((h 0), .inr (11, [.ref (h 1), .ref (h 9), .int 0, .int 0, .ref (h 20), .ref (h 37), .int 0, .ref (h 38), .ref (h 42), .ref (h 43), .ref (h 44), .ref (h 45), .ref (h 46), .ref (h 47), .ref (h 48)])), ((h 1), .inr (8, [.ref (h 2), .int 0, .ref (h 3), .ref (h 4), .int 0, .ref (h 5), .int 0, .ref (h 6), .int 0, .ref (h 7), .int 0])), ((h 3), .inl ((cs 9), 10, .inr (.inr (.inr (.inr (fun _ => none))))))] := hD
  refine W.widen (k := 2) (n := 12) (Nat.le_of_ble_eq_true rfl) (Nat.le_of_ble_eq_true rfl) ?_
  simp only [Int32.reduceToInt] at hw_2
  refine lv_aload_n hx hb dX11_assume_12 rfl (lv_at hl 0 rfl) ?_
  refine lv_iload_n hx hb dX11_assume_13 rfl (lv_at hl 1 rfl) ?_
  have hPc := hP.sub (ws' := [((h 0), .inr (11, [.ref (h 1), .ref (h 9), .int 0, .int 0, .ref (h 20), .ref (h 37), .int 0, .ref (h 38), .ref (h 42), .ref (h 43), .ref (h 44), .ref (h 45), .ref (h 46), .ref (h 47), .ref (h 48)])), ((h 1), .inr (8, [.ref (h 2), .int 0, .ref (h 3), .ref (h 4), .int 0, .ref (h 5), .int 0, .ref (h 6), .int 0, .ref (h 7), .int 0])), ((h 3), .inl ((cs 9), 10, .inr (.inr (.inr (.inr (fun _ => none))))))]) [0, 1, 2] rfl
  have hDc := hD.sub (ws' := [((h 0), .inr (11, [.ref (h 1), .ref (h 9), .int 0, .int 0, .ref (h 20), .ref (h 37), .int 0, .ref (h 38), .ref (h 42), .ref (h 43), .ref (h 44), .ref (h 45), .ref (h 46), .ref (h 47), .ref (h 48)])), ((h 1), .inr (8, [.ref (h 2), .int 0, .ref (h 3), .ref (h 4), .int 0, .ref (h 5), .int 0, .ref (h 6), .int 0, .ref (h 7), .int 0])), ((h 3), .inl ((cs 9), 10, .inr (.inr (.inr (.inr (fun _ => none))))))]) [0, 1, 2] (by decide) rfl
  have hKc := hK.sub (tys' := [((cs 9), .object RX9)]) [0] rfl
  have hFc := va_free (wc := [((h 0), .inr (11, [.ref (h 1), .ref (h 9), .int 0, .int 0, .ref (h 20), .ref (h 37), .int 0, .ref (h 38), .ref (h 42), .ref (h 43), .ref (h 44), .ref (h 45), .ref (h 46), .ref (h 47), .ref (h 48)])), ((h 1), .inr (8, [.ref (h 2), .int 0, .ref (h 3), .ref (h 4), .int 0, .ref (h 5), .int 0, .ref (h 6), .int 0, .ref (h 7), .int 0])), ((h 3), .inl ((cs 9), 10, .inr (.inr (.inr (.inr (fun _ => none))))))]) hD hS hA [0, 1, 2] rfl
  refine vx_callq (vx_runV (As := [.int p0]) (rest := []) ⟨hx, hb, hml, hown, ht⟩ (k_X11_filled l hl0 _ D h cs p0 hw_1) (cwV 1 ht (zG_V zw_406 zw_407 zw_408 zw_404 zw_409) rfl rfl rfl (by decide +kernel) ⟨Nat.le_of_ble_eq_true rfl, Nat.le_of_ble_eq_true rfl⟩) (zW_V (va_recv hK hP (ci := 11) (q0 := 0) rfl rfl) hEx hS hFc hPc hKc hDc) rfl rfl hl.1 rfl (lv_room (Nat.le_of_ble_eq_true rfl)) dX11_assume_14 ⟨Nat.le_of_ble_eq_true rfl, Nat.le_of_ble_eq_true rfl⟩) hS (fun q _ h => hFc q h) hFc (fun q _ h => hFc q h) (fun E ce q9 uu t H1 locs1 ht0 hvm hpx hB hz1 hk1 hS hcell hv hcl => ?_) (fun r_3 u_3 t H1 locs ht0 hvm hw_3 hB hz1 hk1 hS => ?_)
  · exact vx_out (fun x hx => (hexc x hx).elim) hlocks hcell hv hcl (fun t2 h2 hv2 => ⟨(), trivial, (by obtain ⟨hE, hb9⟩ := hB; (try simp only [Int32.reduceToInt] at hb9); exact .inr (⟨hE, (show zS_assume p0 p1 2 0 from (.inr ⟨rfl, by omega⟩))⟩)), hS.F h2⟩) hS.2.2 (Nat.le_of_ble_eq_true rfl) (Nat.le_of_ble_eq_true rfl)
  exact hw_3.elim
set_option maxHeartbeats 4000000 in
set_option maxRecDepth 100000 in
theorem k_X11_giveUp (l : Launch) (hl0 : l.stackTraces = false) (sz : Nat) (D : va_G) (h cs : Nat → Nat) : vx_Met l yX11_giveUp (.code yX11_giveUp cX11_giveUp 1 (some .int) :: zT) ({ frames := 7, cells := 1, slots := 6, locals := 110 }) (va_Pc [.ref (h 0)] (zW D [((h 0), .inr (11, [.ref (h 1), .ref (h 9), .int 0, .int 0, .ref (h 20), .ref (h 37), .int 0, .ref (h 38), .ref (h 42), .ref (h 43), .ref (h 44), .ref (h 45), .ref (h 46), .ref (h 47), .ref (h 48)])), ((h 1), .inr (8, [.ref (h 2), .int 0, .ref (h 3), .ref (h 4), .int 0, .ref (h 5), .int 0, .ref (h 6), .int 0, .ref (h 7), .int 0]))] [] sz)) (va_Qi (fun (r : Int32) (_ : Unit) => zS_giveUp 0 r) (fun _ t => zE D [] [] (va_A [((h 0), .inr (11, [.ref (h 1), .ref (h 9), .int 0, .int 0, .ref (h 20), .ref (h 37), .int 0, .ref (h 38), .ref (h 42), .ref (h 43), .ref (h 44), .ref (h 45), .ref (h 46), .ref (h 47), .ref (h 48)])), ((h 1), .inr (8, [.ref (h 2), .int 0, .ref (h 3), .ref (h 4), .int 0, .ref (h 5), .int 0, .ref (h 6), .int 0, .ref (h 7), .int 0]))] sz) t) (va_A [((h 0), .inr (11, [.ref (h 1), .ref (h 9), .int 0, .int 0, .ref (h 20), .ref (h 37), .int 0, .ref (h 38), .ref (h 42), .ref (h 43), .ref (h 44), .ref (h 45), .ref (h 46), .ref (h 47), .ref (h 48)])), ((h 1), .inr (8, [.ref (h 2), .int 0, .ref (h 3), .ref (h 4), .int 0, .ref (h 5), .int 0, .ref (h 6), .int 0, .ref (h 7), .int 0]))] sz)) (vx_X (fun _ : Unit => True) (fun E _ _ => (E = "java/util/NoSuchElementException" ∧ zS_giveUp 1 0)) (va_A [((h 0), .inr (11, [.ref (h 1), .ref (h 9), .int 0, .int 0, .ref (h 20), .ref (h 37), .int 0, .ref (h 38), .ref (h 42), .ref (h 43), .ref (h 44), .ref (h 45), .ref (h 46), .ref (h 47), .ref (h 48)])), ((h 1), .inr (8, [.ref (h 2), .int 0, .ref (h 3), .ref (h 4), .int 0, .ref (h 5), .int 0, .ref (h 6), .int 0, .ref (h 7), .int 0]))] sz)) 1 6 (va_A [((h 0), .inr (11, [.ref (h 1), .ref (h 9), .int 0, .int 0, .ref (h 20), .ref (h 37), .int 0, .ref (h 38), .ref (h 42), .ref (h 43), .ref (h 44), .ref (h 45), .ref (h 46), .ref (h 47), .ref (h 48)])), ((h 1), .inr (8, [.ref (h 2), .int 0, .ref (h 3), .ref (h 4), .int 0, .ref (h 5), .int 0, .ref (h 6), .int 0, .ref (h 7), .int 0]))] sz) := by
  refine vx_ofW (cc := cX11_giveUp) (maxL := 1) (ret := (some .int)) (by decide) rfl ?_
  intro p e s m args below meth c s₁ B hml hexc hv
  obtain ⟨rfl, hEx, hsz, hP, hK, hD0⟩ := hv
  have hx := B.exec
  have hb := B.bytes
  have hr := B.returns
  have hts := atoms_spec (ws := (.code yX11_giveUp cX11_giveUp 1 (some .int) :: zT)) B.pre
  have ht : ∀ w ∈ zT, w.before _ s = true := fun w h => hts w (List.mem_cons_of_mem _ h)
  have hown : s.vm.findClass RX11 = some m.cls := findClass_of_methodNamed B.named
  have hlocks := B.notSynchronized
  subst hsz
  have hD := hD0.self (sz := s.heap.size)
  generalize hAe : va_A [((h 0), .inr (11, [.ref (h 1), .ref (h 9), .int 0, .int 0, .ref (h 20), .ref (h 37), .int 0, .ref (h 38), .ref (h 42), .ref (h 43), .ref (h 44), .ref (h 45), .ref (h 46), .ref (h 47), .ref (h 48)])), ((h 1), .inr (8, [.ref (h 2), .int 0, .ref (h 3), .ref (h 4), .int 0, .ref (h 5), .int 0, .ref (h 6), .int 0, .ref (h 7), .int 0]))] s.heap.size = A at hD hEx ⊢
  have hA : ∀ q : Nat, s.heap.size ≤ q → A q := fun q h => by rw [← hAe]; exact Or.inr h
  have hS : va_S A s.heap s.heap [] := va_S.rf
  have hP : va_P D vwCl [((h 0), .inr (11, [.ref (h 1), .ref (h 9), .int 0, .int 0, .ref (h 20), .ref (h 37), .int 0, .ref (h 38), .ref (h 42), .ref (h 43), .ref (h 44), .ref (h 45), .ref (h 46), .ref (h 47), .ref (h 48)])), ((h 1), .inr (8, [.ref (h 2), .int 0, .ref (h 3), .ref (h 4), .int 0, .ref (h 5), .int 0, .ref (h 6), .int 0, .ref (h 7), .int 0]))] s.heap := hP
  have hl := lv_entry ([.ref (h 0)]) (n := 1) (Nat.le_of_ble_eq_true rfl)
  rw [lg_entry_eq]
  generalize (lg_sl ([.ref (h 0)]) ++ List.replicate (1 - (lg_sl ([.ref (h 0)])).length) Slot.unset).toArray = ls at hl ⊢
  have hl : lv_has ls 1 [(0, .ref (h 0))] := hl
  skip
  refine lv_aload_n hx hb dX11_giveUp_0 rfl (lv_at hl 0 rfl) ?_
  have hPc := hP.sub (ws' := [((h 0), .inr (11, [.ref (h 1), .ref (h 9), .int 0, .int 0, .ref (h 20), .ref (h 37), .int 0, .ref (h 38), .ref (h 42), .ref (h 43), .ref (h 44), .ref (h 45), .ref (h 46), .ref (h 47), .ref (h 48)])), ((h 1), .inr (8, [.ref (h 2), .int 0, .ref (h 3), .ref (h 4), .int 0, .ref (h 5), .int 0, .ref (h 6), .int 0, .ref (h 7), .int 0]))]) [0, 1] rfl
  have hDc := hD.sub (ws' := [((h 0), .inr (11, [.ref (h 1), .ref (h 9), .int 0, .int 0, .ref (h 20), .ref (h 37), .int 0, .ref (h 38), .ref (h 42), .ref (h 43), .ref (h 44), .ref (h 45), .ref (h 46), .ref (h 47), .ref (h 48)])), ((h 1), .inr (8, [.ref (h 2), .int 0, .ref (h 3), .ref (h 4), .int 0, .ref (h 5), .int 0, .ref (h 6), .int 0, .ref (h 7), .int 0]))]) [0, 1] (by decide) rfl
  have hKc := hK.sub (tys' := []) [] rfl
  have hFc := va_free (wc := [((h 0), .inr (11, [.ref (h 1), .ref (h 9), .int 0, .int 0, .ref (h 20), .ref (h 37), .int 0, .ref (h 38), .ref (h 42), .ref (h 43), .ref (h 44), .ref (h 45), .ref (h 46), .ref (h 47), .ref (h 48)])), ((h 1), .inr (8, [.ref (h 2), .int 0, .ref (h 3), .ref (h 4), .int 0, .ref (h 5), .int 0, .ref (h 6), .int 0, .ref (h 7), .int 0]))]) hD hS hA [0, 1] rfl
  refine vx_callq (vx_runV (As := []) (rest := []) ⟨hx, hb, hml, hown, ht⟩ (k_X11_latestAssumption l hl0 _ D h cs) (cwV 0 ht (zG_V zw_429 zw_430 zw_431 zw_404 zw_432) rfl rfl rfl (by decide +kernel) ⟨Nat.le_of_ble_eq_true rfl, Nat.le_of_ble_eq_true rfl⟩) (zW_V (va_recv hK hP (ci := 11) (q0 := 0) rfl rfl) hEx hS hFc hPc hKc hDc) rfl rfl hl.1 rfl (lv_room (Nat.le_of_ble_eq_true rfl)) dX11_giveUp_1 ⟨Nat.le_of_ble_eq_true rfl, Nat.le_of_ble_eq_true rfl⟩) hS (fun q _ h => hFc q h) hFc (fun q _ h => hFc q h) (fun E ce q9 uu t H1 locs1 ht0 hvm hpx hB hz1 hk1 hS hcell hv hcl => ?_) (fun r_1 u_1 t H1 locs ht0 hvm hw_1 hB hz1 hk1 hS => ?_)
  · exact vx_out (fun x hx => (hexc x hx).elim) hlocks hcell hv hcl (fun t2 h2 hv2 => ⟨(), trivial, (by obtain ⟨hE, hb9⟩ := hB; (try simp only [Int32.reduceToInt] at hb9); exact ⟨hE, (show zS_giveUp 1 0 from ⟨rfl, by trivial⟩)⟩), hS.F h2⟩) hS.2.2 (Nat.le_of_ble_eq_true rfl) (Nat.le_of_ble_eq_true rfl)
  exact hw_1.elim
set_option maxHeartbeats 4000000 in
set_option maxRecDepth 100000 in
theorem k_X11_end (l : Launch) (hl0 : l.stackTraces = false) (sz : Nat) (D : va_G) (h cs : Nat → Nat) (p0 p1 : Int32) : vx_Met l yX11_end (.code yX11_end cX11_end 5 (some .int) :: zT) ({ frames := 7, cells := 3, slots := 18, locals := 111 }) (va_Pc [.ref (h 0), .int p0, .int p1] (zW D [((h 0), .inr (11, [.ref (h 1), .ref (h 9), .int 0, .int 0, .ref (h 20), .ref (h 37), .int 0, .ref (h 38), .ref (h 42), .ref (h 43), .ref (h 44), .ref (h 45), .ref (h 46), .ref (h 47), .ref (h 48)])), ((h 1), .inr (8, [.ref (h 2), .int 0, .ref (h 3), .ref (h 4), .int 0, .ref (h 5), .int 0, .ref (h 6), .int 0, .ref (h 7), .int 0]))] [] sz)) (va_Qi (fun (r : Int32) (_ : Unit) => zS_end p0 p1 0 r) (fun _ t => zE D [] [] (va_A [((h 0), .inr (11, [.ref (h 1), .ref (h 9), .int 0, .int 0, .ref (h 20), .ref (h 37), .int 0, .ref (h 38), .ref (h 42), .ref (h 43), .ref (h 44), .ref (h 45), .ref (h 46), .ref (h 47), .ref (h 48)])), ((h 1), .inr (8, [.ref (h 2), .int 0, .ref (h 3), .ref (h 4), .int 0, .ref (h 5), .int 0, .ref (h 6), .int 0, .ref (h 7), .int 0]))] sz) t) (va_A [((h 0), .inr (11, [.ref (h 1), .ref (h 9), .int 0, .int 0, .ref (h 20), .ref (h 37), .int 0, .ref (h 38), .ref (h 42), .ref (h 43), .ref (h 44), .ref (h 45), .ref (h 46), .ref (h 47), .ref (h 48)])), ((h 1), .inr (8, [.ref (h 2), .int 0, .ref (h 3), .ref (h 4), .int 0, .ref (h 5), .int 0, .ref (h 6), .int 0, .ref (h 7), .int 0]))] sz)) (vx_X (fun _ : Unit => True) (fun E _ _ => (E = "java/lang/IllegalArgumentException" ∧ zS_end p0 p1 1 0) ∨ (E = "java/lang/IndexOutOfBoundsException" ∧ zS_end p0 p1 2 0) ∨ (E = "java/util/NoSuchElementException" ∧ zS_end p0 p1 3 0)) (va_A [((h 0), .inr (11, [.ref (h 1), .ref (h 9), .int 0, .int 0, .ref (h 20), .ref (h 37), .int 0, .ref (h 38), .ref (h 42), .ref (h 43), .ref (h 44), .ref (h 45), .ref (h 46), .ref (h 47), .ref (h 48)])), ((h 1), .inr (8, [.ref (h 2), .int 0, .ref (h 3), .ref (h 4), .int 0, .ref (h 5), .int 0, .ref (h 6), .int 0, .ref (h 7), .int 0]))] sz)) 3 18 (va_A [((h 0), .inr (11, [.ref (h 1), .ref (h 9), .int 0, .int 0, .ref (h 20), .ref (h 37), .int 0, .ref (h 38), .ref (h 42), .ref (h 43), .ref (h 44), .ref (h 45), .ref (h 46), .ref (h 47), .ref (h 48)])), ((h 1), .inr (8, [.ref (h 2), .int 0, .ref (h 3), .ref (h 4), .int 0, .ref (h 5), .int 0, .ref (h 6), .int 0, .ref (h 7), .int 0]))] sz) := by
  refine vx_ofW (cc := cX11_end) (maxL := 5) (ret := (some .int)) (by decide) rfl ?_
  intro p e s m args below meth c s₁ B hml hexc hv
  obtain ⟨rfl, hEx, hsz, hP, hK, hD0⟩ := hv
  have hx := B.exec
  have hb := B.bytes
  have hr := B.returns
  have hts := atoms_spec (ws := (.code yX11_end cX11_end 5 (some .int) :: zT)) B.pre
  have ht : ∀ w ∈ zT, w.before _ s = true := fun w h => hts w (List.mem_cons_of_mem _ h)
  have hown : s.vm.findClass RX11 = some m.cls := findClass_of_methodNamed B.named
  have hlocks := B.notSynchronized
  subst hsz
  have hD := hD0.self (sz := s.heap.size)
  generalize hAe : va_A [((h 0), .inr (11, [.ref (h 1), .ref (h 9), .int 0, .int 0, .ref (h 20), .ref (h 37), .int 0, .ref (h 38), .ref (h 42), .ref (h 43), .ref (h 44), .ref (h 45), .ref (h 46), .ref (h 47), .ref (h 48)])), ((h 1), .inr (8, [.ref (h 2), .int 0, .ref (h 3), .ref (h 4), .int 0, .ref (h 5), .int 0, .ref (h 6), .int 0, .ref (h 7), .int 0]))] s.heap.size = A at hD hEx ⊢
  have hA : ∀ q : Nat, s.heap.size ≤ q → A q := fun q h => by rw [← hAe]; exact Or.inr h
  have hS : va_S A s.heap s.heap [] := va_S.rf
  have hP : va_P D vwCl [((h 0), .inr (11, [.ref (h 1), .ref (h 9), .int 0, .int 0, .ref (h 20), .ref (h 37), .int 0, .ref (h 38), .ref (h 42), .ref (h 43), .ref (h 44), .ref (h 45), .ref (h 46), .ref (h 47), .ref (h 48)])), ((h 1), .inr (8, [.ref (h 2), .int 0, .ref (h 3), .ref (h 4), .int 0, .ref (h 5), .int 0, .ref (h 6), .int 0, .ref (h 7), .int 0]))] s.heap := hP
  have hl := lv_entry ([.ref (h 0), .int p0, .int p1]) (n := 5) (Nat.le_of_ble_eq_true rfl)
  rw [lg_entry_eq]
  generalize (lg_sl ([.ref (h 0), .int p0, .int p1]) ++ List.replicate (5 - (lg_sl ([.ref (h 0), .int p0, .int p1])).length) Slot.unset).toArray = ls at hl ⊢
  have hl : lv_has ls 5 [(0, .ref (h 0)), (1, .int p0), (2, .int p1)] := hl
  skip
  refine lv_iload_n hx hb dX11_end_0 rfl (lv_at hl 1 rfl) ?_
  refine lv_bipush (v := 99) hx hb dX11_end_1 (by decide) ?_
  have hPc := hP.sub (ws' := []) [] rfl
  have hDc := hD.sub (ws' := []) [] (by decide) rfl
  have hKc := hK.sub (tys' := []) [] rfl
  have hFc := va_free (wc := []) hD hS hA [] rfl
  refine vx_callv (vx_runS (As := [.int p0, .int 99]) (rest := []) ⟨hx, hb, hml, hown, ht⟩ (k_X11_checkNumber l hl0 _ D p0 99) (va_cwS 2 ht (zG_S zw_410 zw_411 zw_404 zw_412) rfl rfl rfl (by decide +kernel) ⟨Nat.le_of_ble_eq_true rfl, Nat.le_of_ble_eq_true rfl⟩) (zW_S hEx hS hFc hPc hKc hDc) rfl rfl hl.1 rfl (lv_room (Nat.le_of_ble_eq_true rfl)) dX11_end_3 ⟨Nat.le_of_ble_eq_true rfl, Nat.le_of_ble_eq_true rfl⟩) hS (fun q _ h => hFc q h) hFc (fun q _ h => hFc q h) (fun E ce q9 uu t H1 locs1 ht0 hvm hpx hB hz1 hk1 hS hcell hv hcl => ?_) (fun u_1 t H1 locs ht0 hvm hw_1 hB hz1 hk1 hS => ?_)
  · exact vx_out (fun x hx => (hexc x hx).elim) hlocks hcell hv hcl (fun t2 h2 hv2 => ⟨(), trivial, (by obtain ⟨hE, hb9⟩ := hB; (try simp only [Int32.reduceToInt] at hb9); exact .inl ⟨hE, (show zS_end p0 p1 1 0 from (.inl ⟨rfl, by omega⟩))⟩), hS.F h2⟩) hS.2.2 (Nat.le_of_ble_eq_true rfl) (Nat.le_of_ble_eq_true rfl)
  obtain ⟨hP1, hK1, hD1⟩ := hB
  rw [ht0] at hP1
  have hK1 := va_K.moved hvm.symm hK1
  obtain ⟨hP, hD⟩ := va_join (wr := [((h 0), .inr (11, [.ref (h 1), .ref (h 9), .int 0, .int 0, .ref (h 20), .ref (h 37), .int 0, .ref (h 38), .ref (h 42), .ref (h 43), .ref (h 44), .ref (h 45), .ref (h 46), .ref (h 47), .ref (h 48)])), ((h 1), .inr (8, [.ref (h 2), .int 0, .ref (h 3), .ref (h 4), .int 0, .ref (h 5), .int 0, .ref (h 6), .int 0, .ref (h 7), .int 0]))]) (w1 := []) hP hD [] [0, 1] rfl rfl (by decide) (by decide) hk1 hFc hP1 hD1
  generalize H1 = H at hP hS ⊢
  have hP : va_P D vwCl [((h 0), .inr (11, [.ref (h 1), .ref (h 9), .int 0, .int 0, .ref (h 20), .ref (h 37), .int 0, .ref (h 38), .ref (h 42), .ref (h 43), .ref (h 44), .ref (h 45), .ref (h 46), .ref (h 47), .ref (h 48)])), ((h 1), .inr (8, [.ref (h 2), .int 0, .ref (h 3), .ref (h 4), .int 0, .ref (h 5), .int 0, .ref (h 6), .int 0, .ref (h 7), .int 0]))] H := hP
  have hD : va_D A [((h 0), .inr (11, [.ref (h 1), .ref (h 9), .int 0, .int 0, .ref (h 20), .ref (h 37), .int 0, .ref (h 38), .ref (h 42), .ref (h 43), .ref (h 44), .ref (h 45), .ref (h 46), .ref (h 47), .ref (h 48)])), ((h 1), .inr (8, [.ref (h 2), .int 0, .ref (h 3), .ref (h 4), .int 0, .ref (h 5), .int 0, .ref (h 6), .int 0, .ref (h 7), .int 0]))] := hD
  refine W.widen (k := 1) (n := 6) (Nat.le_of_ble_eq_true rfl) (Nat.le_of_ble_eq_true rfl) ?_
  simp only [Int32.reduceToInt] at hw_1
  refine lv_iload_n hx hb dX11_end_6 rfl (lv_at hl 2 rfl) ?_
  refine lv_iconst (v := 4) hx hb dX11_end_7 (by decide) ?_
  have hPc := hP.sub (ws' := []) [] rfl
  have hDc := hD.sub (ws' := []) [] (by decide) rfl
  have hKc := hK.sub (tys' := []) [] rfl
  have hFc := va_free (wc := []) hD hS hA [] rfl
  refine vx_callv (vx_runS (As := [.int p1, .int 4]) (rest := []) ⟨hx, hb, hml, hown, ht⟩ (k_X11_checkIndex l hl0 _ D p1 4) (va_cwS 2 ht (zG_S zw_402 zw_403 zw_404 zw_405) rfl rfl rfl (by decide +kernel) ⟨Nat.le_of_ble_eq_true rfl, Nat.le_of_ble_eq_true rfl⟩) (zW_S hEx hS hFc hPc hKc hDc) rfl rfl hl.1 rfl (lv_room (Nat.le_of_ble_eq_true rfl)) dX11_end_8 ⟨Nat.le_of_ble_eq_true rfl, Nat.le_of_ble_eq_true rfl⟩) hS (fun q _ h => hFc q h) hFc (fun q _ h => hFc q h) (fun E ce q9 uu t H1 locs1 ht0 hvm hpx hB hz1 hk1 hS hcell hv hcl => ?_) (fun u_2 t H1 locs ht0 hvm hw_2 hB hz1 hk1 hS => ?_)
  · exact vx_out (fun x hx => (hexc x hx).elim) hlocks hcell hv hcl (fun t2 h2 hv2 => ⟨(), trivial, (by obtain ⟨hE, hb9⟩ := hB; (try simp only [Int32.reduceToInt] at hb9); exact .inr (.inl ⟨hE, (show zS_end p0 p1 2 0 from (.inr (.inl ⟨rfl, by omega⟩)))⟩)), hS.F h2⟩) hS.2.2 (Nat.le_of_ble_eq_true rfl) (Nat.le_of_ble_eq_true rfl)
  obtain ⟨hP1, hK1, hD1⟩ := hB
  rw [ht0] at hP1
  have hK1 := va_K.moved hvm.symm hK1
  obtain ⟨hP, hD⟩ := va_join (wr := [((h 0), .inr (11, [.ref (h 1), .ref (h 9), .int 0, .int 0, .ref (h 20), .ref (h 37), .int 0, .ref (h 38), .ref (h 42), .ref (h 43), .ref (h 44), .ref (h 45), .ref (h 46), .ref (h 47), .ref (h 48)])), ((h 1), .inr (8, [.ref (h 2), .int 0, .ref (h 3), .ref (h 4), .int 0, .ref (h 5), .int 0, .ref (h 6), .int 0, .ref (h 7), .int 0]))]) (w1 := []) hP hD [] [0, 1] rfl rfl (by decide) (by decide) hk1 hFc hP1 hD1
  generalize H1 = H at hP hS ⊢
  have hP : va_P D vwCl [((h 0), .inr (11, [.ref (h 1), .ref (h 9), .int 0, .int 0, .ref (h 20), .ref (h 37), .int 0, .ref (h 38), .ref (h 42), .ref (h 43), .ref (h 44), .ref (h 45), .ref (h 46), .ref (h 47), .ref (h 48)])), ((h 1), .inr (8, [.ref (h 2), .int 0, .ref (h 3), .ref (h 4), .int 0, .ref (h 5), .int 0, .ref (h 6), .int 0, .ref (h 7), .int 0]))] H := hP
  have hD : va_D A [((h 0), .inr (11, [.ref (h 1), .ref (h 9), .int 0, .int 0, .ref (h 20), .ref (h 37), .int 0, .ref (h 38), .ref (h 42), .ref (h 43), .ref (h 44), .ref (h 45), .ref (h 46), .ref (h 47), .ref (h 48)])), ((h 1), .inr (8, [.ref (h 2), .int 0, .ref (h 3), .ref (h 4), .int 0, .ref (h 5), .int 0, .ref (h 6), .int 0, .ref (h 7), .int 0]))] := hD
  refine W.widen (k := 2) (n := 12) (Nat.le_of_ble_eq_true rfl) (Nat.le_of_ble_eq_true rfl) ?_
  simp only [Int32.reduceToInt] at hw_2
  refine lv_aload_n hx hb dX11_end_11 rfl (lv_at hl 0 rfl) ?_
  have hPc := hP.sub (ws' := [((h 0), .inr (11, [.ref (h 1), .ref (h 9), .int 0, .int 0, .ref (h 20), .ref (h 37), .int 0, .ref (h 38), .ref (h 42), .ref (h 43), .ref (h 44), .ref (h 45), .ref (h 46), .ref (h 47), .ref (h 48)])), ((h 1), .inr (8, [.ref (h 2), .int 0, .ref (h 3), .ref (h 4), .int 0, .ref (h 5), .int 0, .ref (h 6), .int 0, .ref (h 7), .int 0]))]) [0, 1] rfl
  have hDc := hD.sub (ws' := [((h 0), .inr (11, [.ref (h 1), .ref (h 9), .int 0, .int 0, .ref (h 20), .ref (h 37), .int 0, .ref (h 38), .ref (h 42), .ref (h 43), .ref (h 44), .ref (h 45), .ref (h 46), .ref (h 47), .ref (h 48)])), ((h 1), .inr (8, [.ref (h 2), .int 0, .ref (h 3), .ref (h 4), .int 0, .ref (h 5), .int 0, .ref (h 6), .int 0, .ref (h 7), .int 0]))]) [0, 1] (by decide) rfl
  have hKc := hK.sub (tys' := []) [] rfl
  have hFc := va_free (wc := [((h 0), .inr (11, [.ref (h 1), .ref (h 9), .int 0, .int 0, .ref (h 20), .ref (h 37), .int 0, .ref (h 38), .ref (h 42), .ref (h 43), .ref (h 44), .ref (h 45), .ref (h 46), .ref (h 47), .ref (h 48)])), ((h 1), .inr (8, [.ref (h 2), .int 0, .ref (h 3), .ref (h 4), .int 0, .ref (h 5), .int 0, .ref (h 6), .int 0, .ref (h 7), .int 0]))]) hD hS hA [0, 1] rfl
  refine vx_callq (vx_runV (As := []) (rest := []) ⟨hx, hb, hml, hown, ht⟩ (k_X11_latestAssumption l hl0 _ D h cs) (cwV 0 ht (zG_V zw_429 zw_430 zw_431 zw_404 zw_432) rfl rfl rfl (by decide +kernel) ⟨Nat.le_of_ble_eq_true rfl, Nat.le_of_ble_eq_true rfl⟩) (zW_V (va_recv hK hP (ci := 11) (q0 := 0) rfl rfl) hEx hS hFc hPc hKc hDc) rfl rfl hl.1 rfl (lv_room (Nat.le_of_ble_eq_true rfl)) dX11_end_12 ⟨Nat.le_of_ble_eq_true rfl, Nat.le_of_ble_eq_true rfl⟩) hS (fun q _ h => hFc q h) hFc (fun q _ h => hFc q h) (fun E ce q9 uu t H1 locs1 ht0 hvm hpx hB hz1 hk1 hS hcell hv hcl => ?_) (fun r_3 u_3 t H1 locs ht0 hvm hw_3 hB hz1 hk1 hS => ?_)
  · exact vx_out (fun x hx => (hexc x hx).elim) hlocks hcell hv hcl (fun t2 h2 hv2 => ⟨(), trivial, (by obtain ⟨hE, hb9⟩ := hB; (try simp only [Int32.reduceToInt] at hb9); exact .inr (.inr (⟨hE, (show zS_end p0 p1 3 0 from (.inr (.inr ⟨rfl, by omega⟩)))⟩))), hS.F h2⟩) hS.2.2 (Nat.le_of_ble_eq_true rfl) (Nat.le_of_ble_eq_true rfl)
  exact hw_3.elim
set_option maxHeartbeats 4000000 in
set_option maxRecDepth 100000 in
theorem k_X11_begin (l : Launch) (hl0 : l.stackTraces = false) (sz : Nat) (D : va_G) (h cs : Nat → Nat) (p0 p1 : Int32) : vx_Met l yX11_begin (.code yX11_begin cX11_begin 6 (some .int) :: zT) ({ frames := 7, cells := 3, slots := 18, locals := 112 }) (va_Pc [.ref (h 0), .int p0, .int p1] (zW D [((h 0), .inr (11, [.ref (h 1), .ref (h 9), .int 0, .int 0, .ref (h 20), .ref (h 37), .int 0, .ref (h 38), .ref (h 42), .ref (h 43), .ref (h 44), .ref (h 45), .ref (h 46), .ref (h 47), .ref (h 48)])), ((h 1), .inr (8, [.ref (h 2), .int 0, .ref (h 3), .ref (h 4), .int 0, .ref (h 5), .int 0, .ref (h 6), .int 0, .ref (h 7), .int 0])), ((h 3), .inl ((cs 9), 10, .inr (.inr (.inr (.inr (fun _ => none))))))] [((cs 9), .object RX9)] sz)) (va_Qi (fun (r : Int32) (_ : Unit) => zS_begin p0 p1 0 r) (fun _ t => zE D [] [] (va_A [((h 0), .inr (11, [.ref (h 1), .ref (h 9), .int 0, .int 0, .ref (h 20), .ref (h 37), .int 0, .ref (h 38), .ref (h 42), .ref (h 43), .ref (h 44), .ref (h 45), .ref (h 46), .ref (h 47), .ref (h 48)])), ((h 1), .inr (8, [.ref (h 2), .int 0, .ref (h 3), .ref (h 4), .int 0, .ref (h 5), .int 0, .ref (h 6), .int 0, .ref (h 7), .int 0])), ((h 3), .inl ((cs 9), 10, .inr (.inr (.inr (.inr (fun _ => none))))))] sz) t) (va_A [((h 0), .inr (11, [.ref (h 1), .ref (h 9), .int 0, .int 0, .ref (h 20), .ref (h 37), .int 0, .ref (h 38), .ref (h 42), .ref (h 43), .ref (h 44), .ref (h 45), .ref (h 46), .ref (h 47), .ref (h 48)])), ((h 1), .inr (8, [.ref (h 2), .int 0, .ref (h 3), .ref (h 4), .int 0, .ref (h 5), .int 0, .ref (h 6), .int 0, .ref (h 7), .int 0])), ((h 3), .inl ((cs 9), 10, .inr (.inr (.inr (.inr (fun _ => none))))))] sz)) (vx_X (fun _ : Unit => True) (fun E _ _ => (E = "java/lang/IndexOutOfBoundsException" ∧ zS_begin p0 p1 1 0) ∨ (E = "java/lang/IllegalStateException" ∧ zS_begin p0 p1 2 0)) (va_A [((h 0), .inr (11, [.ref (h 1), .ref (h 9), .int 0, .int 0, .ref (h 20), .ref (h 37), .int 0, .ref (h 38), .ref (h 42), .ref (h 43), .ref (h 44), .ref (h 45), .ref (h 46), .ref (h 47), .ref (h 48)])), ((h 1), .inr (8, [.ref (h 2), .int 0, .ref (h 3), .ref (h 4), .int 0, .ref (h 5), .int 0, .ref (h 6), .int 0, .ref (h 7), .int 0])), ((h 3), .inl ((cs 9), 10, .inr (.inr (.inr (.inr (fun _ => none))))))] sz)) 3 18 (va_A [((h 0), .inr (11, [.ref (h 1), .ref (h 9), .int 0, .int 0, .ref (h 20), .ref (h 37), .int 0, .ref (h 38), .ref (h 42), .ref (h 43), .ref (h 44), .ref (h 45), .ref (h 46), .ref (h 47), .ref (h 48)])), ((h 1), .inr (8, [.ref (h 2), .int 0, .ref (h 3), .ref (h 4), .int 0, .ref (h 5), .int 0, .ref (h 6), .int 0, .ref (h 7), .int 0])), ((h 3), .inl ((cs 9), 10, .inr (.inr (.inr (.inr (fun _ => none))))))] sz) := by
  refine vx_ofW (cc := cX11_begin) (maxL := 6) (ret := (some .int)) (by decide) rfl ?_
  intro p e s m args below meth c s₁ B hml hexc hv
  obtain ⟨rfl, hEx, hsz, hP, hK, hD0⟩ := hv
  have hx := B.exec
  have hb := B.bytes
  have hr := B.returns
  have hts := atoms_spec (ws := (.code yX11_begin cX11_begin 6 (some .int) :: zT)) B.pre
  have ht : ∀ w ∈ zT, w.before _ s = true := fun w h => hts w (List.mem_cons_of_mem _ h)
  have hown : s.vm.findClass RX11 = some m.cls := findClass_of_methodNamed B.named
  have hlocks := B.notSynchronized
  subst hsz
  have hD := hD0.self (sz := s.heap.size)
  generalize hAe : va_A [((h 0), .inr (11, [.ref (h 1), .ref (h 9), .int 0, .int 0, .ref (h 20), .ref (h 37), .int 0, .ref (h 38), .ref (h 42), .ref (h 43), .ref (h 44), .ref (h 45), .ref (h 46), .ref (h 47), .ref (h 48)])), ((h 1), .inr (8, [.ref (h 2), .int 0, .ref (h 3), .ref (h 4), .int 0, .ref (h 5), .int 0, .ref (h 6), .int 0, .ref (h 7), .int 0])), ((h 3), .inl ((cs 9), 10, .inr (.inr (.inr (.inr (fun _ => none))))))] s.heap.size = A at hD hEx ⊢
  have hA : ∀ q : Nat, s.heap.size ≤ q → A q := fun q h => by rw [← hAe]; exact Or.inr h
  have hS : va_S A s.heap s.heap [] := va_S.rf
  have hP : va_P D vwCl [((h 0), .inr (11, [.ref (h 1), .ref (h 9), .int 0, .int 0, .ref (h 20), .ref (h 37), .int 0, .ref (h 38), .ref (h 42), .ref (h 43), .ref (h 44), .ref (h 45), .ref (h 46), .ref (h 47), .ref (h 48)])), ((h 1), .inr (8, [.ref (h 2), .int 0, .ref (h 3), .ref (h 4), .int 0, .ref (h 5), .int 0, .ref (h 6), .int 0, .ref (h 7), .int 0])), ((h 3), .inl ((cs 9), 10, .inr (.inr (.inr (.inr (fun _ => none))))))] s.heap := hP
  have hl := lv_entry ([.ref (h 0), .int p0, .int p1]) (n := 6) (Nat.le_of_ble_eq_true rfl)
  rw [lg_entry_eq]
  generalize (lg_sl ([.ref (h 0), .int p0, .int p1]) ++ List.replicate (6 - (lg_sl ([.ref (h 0), .int p0, .int p1])).length) Slot.unset).toArray = ls at hl ⊢
  have hl : lv_has ls 6 [(0, .ref (h 0)), (1, .int p0), (2, .int p1)] := hl
  skip
  refine lv_iload_n hx hb dX11_begin_0 rfl (lv_at hl 1 rfl) ?_
  refine lv_iconst (v := 4) hx hb dX11_begin_1 (by decide) ?_
  have hPc := hP.sub (ws' := []) [] rfl
  have hDc := hD.sub (ws' := []) [] (by decide) rfl
  have hKc := hK.sub (tys' := []) [] rfl
  have hFc := va_free (wc := []) hD hS hA [] rfl
  refine vx_callv (vx_runS (As := [.int p0, .int 4]) (rest := []) ⟨hx, hb, hml, hown, ht⟩ (k_X11_checkIndex l hl0 _ D p0 4) (va_cwS 2 ht (zG_S zw_402 zw_403 zw_404 zw_405) rfl rfl rfl (by decide +kernel) ⟨Nat.le_of_ble_eq_true rfl, Nat.le_of_ble_eq_true rfl⟩) (zW_S hEx hS hFc hPc hKc hDc) rfl rfl hl.1 rfl (lv_room (Nat.le_of_ble_eq_true rfl)) dX11_begin_2 ⟨Nat.le_of_ble_eq_true rfl, Nat.le_of_ble_eq_true rfl⟩) hS (fun q _ h => hFc q h) hFc (fun q _ h => hFc q h) (fun E ce q9 uu t H1 locs1 ht0 hvm hpx hB hz1 hk1 hS hcell hv hcl => ?_) (fun u_1 t H1 locs ht0 hvm hw_1 hB hz1 hk1 hS => ?_)
  · exact vx_out (fun x hx => (hexc x hx).elim) hlocks hcell hv hcl (fun t2 h2 hv2 => ⟨(), trivial, (by obtain ⟨hE, hb9⟩ := hB; (try simp only [Int32.reduceToInt] at hb9); exact .inl ⟨hE, (show zS_begin p0 p1 1 0 from (.inl ⟨rfl, by omega⟩))⟩), hS.F h2⟩) hS.2.2 (Nat.le_of_ble_eq_true rfl) (Nat.le_of_ble_eq_true rfl)
  obtain ⟨hP1, hK1, hD1⟩ := hB
  rw [ht0] at hP1
  have hK1 := va_K.moved hvm.symm hK1
  obtain ⟨hP, hD⟩ := va_join (wr := [((h 0), .inr (11, [.ref (h 1), .ref (h 9), .int 0, .int 0, .ref (h 20), .ref (h 37), .int 0, .ref (h 38), .ref (h 42), .ref (h 43), .ref (h 44), .ref (h 45), .ref (h 46), .ref (h 47), .ref (h 48)])), ((h 1), .inr (8, [.ref (h 2), .int 0, .ref (h 3), .ref (h 4), .int 0, .ref (h 5), .int 0, .ref (h 6), .int 0, .ref (h 7), .int 0])), ((h 3), .inl ((cs 9), 10, .inr (.inr (.inr (.inr (fun _ => none))))))]) (w1 := []) hP hD [] [0, 1, 2] rfl rfl (by decide) (by decide) hk1 hFc hP1 hD1
  generalize H1 = H at hP hS ⊢
  have hP : va_P D vwCl [((h 0), .inr (11, [.ref (h 1), .ref (h 9), .int 0, .int 0, .ref (h 20), .ref (h 37), .int 0, .ref (h 38), .ref (h 42), .ref (h 43), .ref (h 44), .ref (h 45), .ref (h 46), .ref (h 47), .ref (h 48)])), ((h 1), .inr (8, [.ref (h 2), .int 0, .ref (h 3), .ref (h 4), .int 0, .ref (h 5), .int 0, .ref (h 6), .int 0, .ref (h 7), .int 0])), ((h 3), .inl ((cs 9), 10, .inr (.inr (.inr (.inr (fun _ => none))))))] H := hP
  have hD : va_D A [((h 0), .inr (11, [.ref (h 1), .ref (h 9), .int 0, .int 0, .ref (h 20), .ref (h 37), .int 0, .ref (h 38), .ref (h 42), .ref (h 43), .ref (h 44), .ref (h 45), .ref (h 46), .ref (h 47), .ref (h 48)])), ((h 1), .inr (8, [.ref (h 2), .int 0, .ref (h 3), .ref (h 4), .int 0, .ref (h 5), .int 0, .ref (h 6), .int 0, .ref (h 7), .int 0])), ((h 3), .inl ((cs 9), 10, .inr (.inr (.inr (.inr (fun _ => none))))))] := hD
  refine W.widen (k := 1) (n := 6) (Nat.le_of_ble_eq_true rfl) (Nat.le_of_ble_eq_true rfl) ?_
  simp only [Int32.reduceToInt] at hw_1
  refine lv_iload_n hx hb dX11_begin_5 rfl (lv_at hl 2 rfl) ?_
  refine lv_bipush (v := 10) hx hb dX11_begin_6 (by decide) ?_
  have hPc := hP.sub (ws' := []) [] rfl
  have hDc := hD.sub (ws' := []) [] (by decide) rfl
  have hKc := hK.sub (tys' := []) [] rfl
  have hFc := va_free (wc := []) hD hS hA [] rfl
  refine vx_callv (vx_runS (As := [.int p1, .int 10]) (rest := []) ⟨hx, hb, hml, hown, ht⟩ (k_X11_checkIndex l hl0 _ D p1 10) (va_cwS 2 ht (zG_S zw_402 zw_403 zw_404 zw_405) rfl rfl rfl (by decide +kernel) ⟨Nat.le_of_ble_eq_true rfl, Nat.le_of_ble_eq_true rfl⟩) (zW_S hEx hS hFc hPc hKc hDc) rfl rfl hl.1 rfl (lv_room (Nat.le_of_ble_eq_true rfl)) dX11_begin_8 ⟨Nat.le_of_ble_eq_true rfl, Nat.le_of_ble_eq_true rfl⟩) hS (fun q _ h => hFc q h) hFc (fun q _ h => hFc q h) (fun E ce q9 uu t H1 locs1 ht0 hvm hpx hB hz1 hk1 hS hcell hv hcl => ?_) (fun u_2 t H1 locs ht0 hvm hw_2 hB hz1 hk1 hS => ?_)
  · exact vx_out (fun x hx => (hexc x hx).elim) hlocks hcell hv hcl (fun t2 h2 hv2 => ⟨(), trivial, (by obtain ⟨hE, hb9⟩ := hB; (try simp only [Int32.reduceToInt] at hb9); exact .inl ⟨hE, (show zS_begin p0 p1 1 0 from (.inl ⟨rfl, by omega⟩))⟩), hS.F h2⟩) hS.2.2 (Nat.le_of_ble_eq_true rfl) (Nat.le_of_ble_eq_true rfl)
  obtain ⟨hP1, hK1, hD1⟩ := hB
  rw [ht0] at hP1
  have hK1 := va_K.moved hvm.symm hK1
  obtain ⟨hP, hD⟩ := va_join (wr := [((h 0), .inr (11, [.ref (h 1), .ref (h 9), .int 0, .int 0, .ref (h 20), .ref (h 37), .int 0, .ref (h 38), .ref (h 42), .ref (h 43), .ref (h 44), .ref (h 45), .ref (h 46), .ref (h 47), .ref (h 48)])), ((h 1), .inr (8, [.ref (h 2), .int 0, .ref (h 3), .ref (h 4), .int 0, .ref (h 5), .int 0, .ref (h 6), .int 0, .ref (h 7), .int 0])), ((h 3), .inl ((cs 9), 10, .inr (.inr (.inr (.inr (fun _ => none))))))]) (w1 := []) hP hD [] [0, 1, 2] rfl rfl (by decide) (by decide) hk1 hFc hP1 hD1
  generalize H1 = H at hP hS ⊢
  have hP : va_P D vwCl [((h 0), .inr (11, [.ref (h 1), .ref (h 9), .int 0, .int 0, .ref (h 20), .ref (h 37), .int 0, .ref (h 38), .ref (h 42), .ref (h 43), .ref (h 44), .ref (h 45), .ref (h 46), .ref (h 47), .ref (h 48)])), ((h 1), .inr (8, [.ref (h 2), .int 0, .ref (h 3), .ref (h 4), .int 0, .ref (h 5), .int 0, .ref (h 6), .int 0, .ref (h 7), .int 0])), ((h 3), .inl ((cs 9), 10, .inr (.inr (.inr (.inr (fun _ => none))))))] H := hP
  have hD : va_D A [((h 0), .inr (11, [.ref (h 1), .ref (h 9), .int 0, .int 0, .ref (h 20), .ref (h 37), .int 0, .ref (h 38), .ref (h 42), .ref (h 43), .ref (h 44), .ref (h 45), .ref (h 46), .ref (h 47), .ref (h 48)])), ((h 1), .inr (8, [.ref (h 2), .int 0, .ref (h 3), .ref (h 4), .int 0, .ref (h 5), .int 0, .ref (h 6), .int 0, .ref (h 7), .int 0])), ((h 3), .inl ((cs 9), 10, .inr (.inr (.inr (.inr (fun _ => none))))))] := hD
  refine W.widen (k := 2) (n := 12) (Nat.le_of_ble_eq_true rfl) (Nat.le_of_ble_eq_true rfl) ?_
  simp only [Int32.reduceToInt] at hw_2
  refine lv_aload_n hx hb dX11_begin_11 rfl (lv_at hl 0 rfl) ?_
  refine lv_iload_n hx hb dX11_begin_12 rfl (lv_at hl 2 rfl) ?_
  have hPc := hP.sub (ws' := [((h 0), .inr (11, [.ref (h 1), .ref (h 9), .int 0, .int 0, .ref (h 20), .ref (h 37), .int 0, .ref (h 38), .ref (h 42), .ref (h 43), .ref (h 44), .ref (h 45), .ref (h 46), .ref (h 47), .ref (h 48)])), ((h 1), .inr (8, [.ref (h 2), .int 0, .ref (h 3), .ref (h 4), .int 0, .ref (h 5), .int 0, .ref (h 6), .int 0, .ref (h 7), .int 0])), ((h 3), .inl ((cs 9), 10, .inr (.inr (.inr (.inr (fun _ => none))))))]) [0, 1, 2] rfl
  have hDc := hD.sub (ws' := [((h 0), .inr (11, [.ref (h 1), .ref (h 9), .int 0, .int 0, .ref (h 20), .ref (h 37), .int 0, .ref (h 38), .ref (h 42), .ref (h 43), .ref (h 44), .ref (h 45), .ref (h 46), .ref (h 47), .ref (h 48)])), ((h 1), .inr (8, [.ref (h 2), .int 0, .ref (h 3), .ref (h 4), .int 0, .ref (h 5), .int 0, .ref (h 6), .int 0, .ref (h 7), .int 0])), ((h 3), .inl ((cs 9), 10, .inr (.inr (.inr (.inr (fun _ => none))))))]) [0, 1, 2] (by decide) rfl
  have hKc := hK.sub (tys' := [((cs 9), .object RX9)]) [0] rfl
  have hFc := va_free (wc := [((h 0), .inr (11, [.ref (h 1), .ref (h 9), .int 0, .int 0, .ref (h 20), .ref (h 37), .int 0, .ref (h 38), .ref (h 42), .ref (h 43), .ref (h 44), .ref (h 45), .ref (h 46), .ref (h 47), .ref (h 48)])), ((h 1), .inr (8, [.ref (h 2), .int 0, .ref (h 3), .ref (h 4), .int 0, .ref (h 5), .int 0, .ref (h 6), .int 0, .ref (h 7), .int 0])), ((h 3), .inl ((cs 9), 10, .inr (.inr (.inr (.inr (fun _ => none))))))]) hD hS hA [0, 1, 2] rfl
  refine vx_callq (vx_runV (As := [.int p1]) (rest := []) ⟨hx, hb, hml, hown, ht⟩ (k_X11_filled l hl0 _ D h cs p1 hw_2) (cwV 1 ht (zG_V zw_406 zw_407 zw_408 zw_404 zw_409) rfl rfl rfl (by decide +kernel) ⟨Nat.le_of_ble_eq_true rfl, Nat.le_of_ble_eq_true rfl⟩) (zW_V (va_recv hK hP (ci := 11) (q0 := 0) rfl rfl) hEx hS hFc hPc hKc hDc) rfl rfl hl.1 rfl (lv_room (Nat.le_of_ble_eq_true rfl)) dX11_begin_13 ⟨Nat.le_of_ble_eq_true rfl, Nat.le_of_ble_eq_true rfl⟩) hS (fun q _ h => hFc q h) hFc (fun q _ h => hFc q h) (fun E ce q9 uu t H1 locs1 ht0 hvm hpx hB hz1 hk1 hS hcell hv hcl => ?_) (fun r_3 u_3 t H1 locs ht0 hvm hw_3 hB hz1 hk1 hS => ?_)
  · exact vx_out (fun x hx => (hexc x hx).elim) hlocks hcell hv hcl (fun t2 h2 hv2 => ⟨(), trivial, (by obtain ⟨hE, hb9⟩ := hB; (try simp only [Int32.reduceToInt] at hb9); exact .inr (⟨hE, (show zS_begin p0 p1 2 0 from (.inr ⟨rfl, by omega⟩))⟩)), hS.F h2⟩) hS.2.2 (Nat.le_of_ble_eq_true rfl) (Nat.le_of_ble_eq_true rfl)
  exact hw_3.elim
set_option maxHeartbeats 4000000 in
set_option maxRecDepth 100000 in
theorem k_X11_line (l : Launch) (hl0 : l.stackTraces = false) (sz : Nat) (D : va_G) (h cs : Nat → Nat) (p0 p1 p2 : Int32) : vx_Met l yX11_line (.code yX11_line cX11_line 5 (some .int) :: zT) ({ frames := 7, cells := 4, slots := 24, locals := 112 }) (va_Pc [.ref (h 0), .int p0, .int p1, .int p2] (zW D [((h 0), .inr (11, [.ref (h 1), .ref (h 9), .int 0, .int 0, .ref (h 20), .ref (h 37), .int 0, .ref (h 38), .ref (h 42), .ref (h 43), .ref (h 44), .ref (h 45), .ref (h 46), .ref (h 47), .ref (h 48)])), ((h 1), .inr (8, [.ref (h 2), .int 0, .ref (h 3), .ref (h 4), .int 0, .ref (h 5), .int 0, .ref (h 6), .int 0, .ref (h 7), .int 0])), ((h 3), .inl ((cs 9), 10, .inr (.inr (.inr (.inr (fun _ => none))))))] [((cs 9), .object RX9)] sz)) (va_Qi (fun (r : Int32) (_ : Unit) => zS_line p0 p1 p2 0 r) (fun _ t => zE D [] [] (va_A [((h 0), .inr (11, [.ref (h 1), .ref (h 9), .int 0, .int 0, .ref (h 20), .ref (h 37), .int 0, .ref (h 38), .ref (h 42), .ref (h 43), .ref (h 44), .ref (h 45), .ref (h 46), .ref (h 47), .ref (h 48)])), ((h 1), .inr (8, [.ref (h 2), .int 0, .ref (h 3), .ref (h 4), .int 0, .ref (h 5), .int 0, .ref (h 6), .int 0, .ref (h 7), .int 0])), ((h 3), .inl ((cs 9), 10, .inr (.inr (.inr (.inr (fun _ => none))))))] sz) t) (va_A [((h 0), .inr (11, [.ref (h 1), .ref (h 9), .int 0, .int 0, .ref (h 20), .ref (h 37), .int 0, .ref (h 38), .ref (h 42), .ref (h 43), .ref (h 44), .ref (h 45), .ref (h 46), .ref (h 47), .ref (h 48)])), ((h 1), .inr (8, [.ref (h 2), .int 0, .ref (h 3), .ref (h 4), .int 0, .ref (h 5), .int 0, .ref (h 6), .int 0, .ref (h 7), .int 0])), ((h 3), .inl ((cs 9), 10, .inr (.inr (.inr (.inr (fun _ => none))))))] sz)) (vx_X (fun _ : Unit => True) (fun E _ _ => (E = "java/lang/IndexOutOfBoundsException" ∧ zS_line p0 p1 p2 1 0) ∨ (E = "java/lang/IllegalArgumentException" ∧ zS_line p0 p1 p2 2 0) ∨ (E = "java/lang/IllegalStateException" ∧ zS_line p0 p1 p2 3 0)) (va_A [((h 0), .inr (11, [.ref (h 1), .ref (h 9), .int 0, .int 0, .ref (h 20), .ref (h 37), .int 0, .ref (h 38), .ref (h 42), .ref (h 43), .ref (h 44), .ref (h 45), .ref (h 46), .ref (h 47), .ref (h 48)])), ((h 1), .inr (8, [.ref (h 2), .int 0, .ref (h 3), .ref (h 4), .int 0, .ref (h 5), .int 0, .ref (h 6), .int 0, .ref (h 7), .int 0])), ((h 3), .inl ((cs 9), 10, .inr (.inr (.inr (.inr (fun _ => none))))))] sz)) 4 24 (va_A [((h 0), .inr (11, [.ref (h 1), .ref (h 9), .int 0, .int 0, .ref (h 20), .ref (h 37), .int 0, .ref (h 38), .ref (h 42), .ref (h 43), .ref (h 44), .ref (h 45), .ref (h 46), .ref (h 47), .ref (h 48)])), ((h 1), .inr (8, [.ref (h 2), .int 0, .ref (h 3), .ref (h 4), .int 0, .ref (h 5), .int 0, .ref (h 6), .int 0, .ref (h 7), .int 0])), ((h 3), .inl ((cs 9), 10, .inr (.inr (.inr (.inr (fun _ => none))))))] sz) := by
  refine vx_ofW (cc := cX11_line) (maxL := 5) (ret := (some .int)) (by decide) rfl ?_
  intro p e s m args below meth c s₁ B hml hexc hv
  obtain ⟨rfl, hEx, hsz, hP, hK, hD0⟩ := hv
  have hx := B.exec
  have hb := B.bytes
  have hr := B.returns
  have hts := atoms_spec (ws := (.code yX11_line cX11_line 5 (some .int) :: zT)) B.pre
  have ht : ∀ w ∈ zT, w.before _ s = true := fun w h => hts w (List.mem_cons_of_mem _ h)
  have hown : s.vm.findClass RX11 = some m.cls := findClass_of_methodNamed B.named
  have hlocks := B.notSynchronized
  subst hsz
  have hD := hD0.self (sz := s.heap.size)
  generalize hAe : va_A [((h 0), .inr (11, [.ref (h 1), .ref (h 9), .int 0, .int 0, .ref (h 20), .ref (h 37), .int 0, .ref (h 38), .ref (h 42), .ref (h 43), .ref (h 44), .ref (h 45), .ref (h 46), .ref (h 47), .ref (h 48)])), ((h 1), .inr (8, [.ref (h 2), .int 0, .ref (h 3), .ref (h 4), .int 0, .ref (h 5), .int 0, .ref (h 6), .int 0, .ref (h 7), .int 0])), ((h 3), .inl ((cs 9), 10, .inr (.inr (.inr (.inr (fun _ => none))))))] s.heap.size = A at hD hEx ⊢
  have hA : ∀ q : Nat, s.heap.size ≤ q → A q := fun q h => by rw [← hAe]; exact Or.inr h
  have hS : va_S A s.heap s.heap [] := va_S.rf
  have hP : va_P D vwCl [((h 0), .inr (11, [.ref (h 1), .ref (h 9), .int 0, .int 0, .ref (h 20), .ref (h 37), .int 0, .ref (h 38), .ref (h 42), .ref (h 43), .ref (h 44), .ref (h 45), .ref (h 46), .ref (h 47), .ref (h 48)])), ((h 1), .inr (8, [.ref (h 2), .int 0, .ref (h 3), .ref (h 4), .int 0, .ref (h 5), .int 0, .ref (h 6), .int 0, .ref (h 7), .int 0])), ((h 3), .inl ((cs 9), 10, .inr (.inr (.inr (.inr (fun _ => none))))))] s.heap := hP
  have hl := lv_entry ([.ref (h 0), .int p0, .int p1, .int p2]) (n := 5) (Nat.le_of_ble_eq_true rfl)
  rw [lg_entry_eq]
  generalize (lg_sl ([.ref (h 0), .int p0, .int p1, .int p2]) ++ List.replicate (5 - (lg_sl ([.ref (h 0), .int p0, .int p1, .int p2])).length) Slot.unset).toArray = ls at hl ⊢
  have hl : lv_has ls 5 [(0, .ref (h 0)), (1, .int p0), (2, .int p1), (3, .int p2)] := hl
  skip
  refine lv_iload_n hx hb dX11_line_0 rfl (lv_at hl 1 rfl) ?_
  refine lv_iconst (v := 4) hx hb dX11_line_1 (by decide) ?_
  have hPc := hP.sub (ws' := []) [] rfl
  have hDc := hD.sub (ws' := []) [] (by decide) rfl
  have hKc := hK.sub (tys' := []) [] rfl
  have hFc := va_free (wc := []) hD hS hA [] rfl
  refine vx_callv (vx_runS (As := [.int p0, .int 4]) (rest := []) ⟨hx, hb, hml, hown, ht⟩ (k_X11_checkIndex l hl0 _ D p0 4) (va_cwS 2 ht (zG_S zw_402 zw_403 zw_404 zw_405) rfl rfl rfl (by decide +kernel) ⟨Nat.le_of_ble_eq_true rfl, Nat.le_of_ble_eq_true rfl⟩) (zW_S hEx hS hFc hPc hKc hDc) rfl rfl hl.1 rfl (lv_room (Nat.le_of_ble_eq_true rfl)) dX11_line_2 ⟨Nat.le_of_ble_eq_true rfl, Nat.le_of_ble_eq_true rfl⟩) hS (fun q _ h => hFc q h) hFc (fun q _ h => hFc q h) (fun E ce q9 uu t H1 locs1 ht0 hvm hpx hB hz1 hk1 hS hcell hv hcl => ?_) (fun u_1 t H1 locs ht0 hvm hw_1 hB hz1 hk1 hS => ?_)
  · exact vx_out (fun x hx => (hexc x hx).elim) hlocks hcell hv hcl (fun t2 h2 hv2 => ⟨(), trivial, (by obtain ⟨hE, hb9⟩ := hB; (try simp only [Int32.reduceToInt] at hb9); exact .inl ⟨hE, (show zS_line p0 p1 p2 1 0 from (.inl ⟨rfl, by omega⟩))⟩), hS.F h2⟩) hS.2.2 (Nat.le_of_ble_eq_true rfl) (Nat.le_of_ble_eq_true rfl)
  obtain ⟨hP1, hK1, hD1⟩ := hB
  rw [ht0] at hP1
  have hK1 := va_K.moved hvm.symm hK1
  obtain ⟨hP, hD⟩ := va_join (wr := [((h 0), .inr (11, [.ref (h 1), .ref (h 9), .int 0, .int 0, .ref (h 20), .ref (h 37), .int 0, .ref (h 38), .ref (h 42), .ref (h 43), .ref (h 44), .ref (h 45), .ref (h 46), .ref (h 47), .ref (h 48)])), ((h 1), .inr (8, [.ref (h 2), .int 0, .ref (h 3), .ref (h 4), .int 0, .ref (h 5), .int 0, .ref (h 6), .int 0, .ref (h 7), .int 0])), ((h 3), .inl ((cs 9), 10, .inr (.inr (.inr (.inr (fun _ => none))))))]) (w1 := []) hP hD [] [0, 1, 2] rfl rfl (by decide) (by decide) hk1 hFc hP1 hD1
  generalize H1 = H at hP hS ⊢
  have hP : va_P D vwCl [((h 0), .inr (11, [.ref (h 1), .ref (h 9), .int 0, .int 0, .ref (h 20), .ref (h 37), .int 0, .ref (h 38), .ref (h 42), .ref (h 43), .ref (h 44), .ref (h 45), .ref (h 46), .ref (h 47), .ref (h 48)])), ((h 1), .inr (8, [.ref (h 2), .int 0, .ref (h 3), .ref (h 4), .int 0, .ref (h 5), .int 0, .ref (h 6), .int 0, .ref (h 7), .int 0])), ((h 3), .inl ((cs 9), 10, .inr (.inr (.inr (.inr (fun _ => none))))))] H := hP
  have hD : va_D A [((h 0), .inr (11, [.ref (h 1), .ref (h 9), .int 0, .int 0, .ref (h 20), .ref (h 37), .int 0, .ref (h 38), .ref (h 42), .ref (h 43), .ref (h 44), .ref (h 45), .ref (h 46), .ref (h 47), .ref (h 48)])), ((h 1), .inr (8, [.ref (h 2), .int 0, .ref (h 3), .ref (h 4), .int 0, .ref (h 5), .int 0, .ref (h 6), .int 0, .ref (h 7), .int 0])), ((h 3), .inl ((cs 9), 10, .inr (.inr (.inr (.inr (fun _ => none))))))] := hD
  refine W.widen (k := 1) (n := 6) (Nat.le_of_ble_eq_true rfl) (Nat.le_of_ble_eq_true rfl) ?_
  simp only [Int32.reduceToInt] at hw_1
  refine lv_iload_n hx hb dX11_line_5 rfl (lv_at hl 3 rfl) ?_
  refine lv_bipush (v := 10) hx hb dX11_line_6 (by decide) ?_
  have hPc := hP.sub (ws' := []) [] rfl
  have hDc := hD.sub (ws' := []) [] (by decide) rfl
  have hKc := hK.sub (tys' := []) [] rfl
  have hFc := va_free (wc := []) hD hS hA [] rfl
  refine vx_callv (vx_runS (As := [.int p2, .int 10]) (rest := []) ⟨hx, hb, hml, hown, ht⟩ (k_X11_checkIndex l hl0 _ D p2 10) (va_cwS 2 ht (zG_S zw_402 zw_403 zw_404 zw_405) rfl rfl rfl (by decide +kernel) ⟨Nat.le_of_ble_eq_true rfl, Nat.le_of_ble_eq_true rfl⟩) (zW_S hEx hS hFc hPc hKc hDc) rfl rfl hl.1 rfl (lv_room (Nat.le_of_ble_eq_true rfl)) dX11_line_8 ⟨Nat.le_of_ble_eq_true rfl, Nat.le_of_ble_eq_true rfl⟩) hS (fun q _ h => hFc q h) hFc (fun q _ h => hFc q h) (fun E ce q9 uu t H1 locs1 ht0 hvm hpx hB hz1 hk1 hS hcell hv hcl => ?_) (fun u_2 t H1 locs ht0 hvm hw_2 hB hz1 hk1 hS => ?_)
  · exact vx_out (fun x hx => (hexc x hx).elim) hlocks hcell hv hcl (fun t2 h2 hv2 => ⟨(), trivial, (by obtain ⟨hE, hb9⟩ := hB; (try simp only [Int32.reduceToInt] at hb9); exact .inl ⟨hE, (show zS_line p0 p1 p2 1 0 from (.inl ⟨rfl, by omega⟩))⟩), hS.F h2⟩) hS.2.2 (Nat.le_of_ble_eq_true rfl) (Nat.le_of_ble_eq_true rfl)
  obtain ⟨hP1, hK1, hD1⟩ := hB
  rw [ht0] at hP1
  have hK1 := va_K.moved hvm.symm hK1
  obtain ⟨hP, hD⟩ := va_join (wr := [((h 0), .inr (11, [.ref (h 1), .ref (h 9), .int 0, .int 0, .ref (h 20), .ref (h 37), .int 0, .ref (h 38), .ref (h 42), .ref (h 43), .ref (h 44), .ref (h 45), .ref (h 46), .ref (h 47), .ref (h 48)])), ((h 1), .inr (8, [.ref (h 2), .int 0, .ref (h 3), .ref (h 4), .int 0, .ref (h 5), .int 0, .ref (h 6), .int 0, .ref (h 7), .int 0])), ((h 3), .inl ((cs 9), 10, .inr (.inr (.inr (.inr (fun _ => none))))))]) (w1 := []) hP hD [] [0, 1, 2] rfl rfl (by decide) (by decide) hk1 hFc hP1 hD1
  generalize H1 = H at hP hS ⊢
  have hP : va_P D vwCl [((h 0), .inr (11, [.ref (h 1), .ref (h 9), .int 0, .int 0, .ref (h 20), .ref (h 37), .int 0, .ref (h 38), .ref (h 42), .ref (h 43), .ref (h 44), .ref (h 45), .ref (h 46), .ref (h 47), .ref (h 48)])), ((h 1), .inr (8, [.ref (h 2), .int 0, .ref (h 3), .ref (h 4), .int 0, .ref (h 5), .int 0, .ref (h 6), .int 0, .ref (h 7), .int 0])), ((h 3), .inl ((cs 9), 10, .inr (.inr (.inr (.inr (fun _ => none))))))] H := hP
  have hD : va_D A [((h 0), .inr (11, [.ref (h 1), .ref (h 9), .int 0, .int 0, .ref (h 20), .ref (h 37), .int 0, .ref (h 38), .ref (h 42), .ref (h 43), .ref (h 44), .ref (h 45), .ref (h 46), .ref (h 47), .ref (h 48)])), ((h 1), .inr (8, [.ref (h 2), .int 0, .ref (h 3), .ref (h 4), .int 0, .ref (h 5), .int 0, .ref (h 6), .int 0, .ref (h 7), .int 0])), ((h 3), .inl ((cs 9), 10, .inr (.inr (.inr (.inr (fun _ => none))))))] := hD
  refine W.widen (k := 2) (n := 12) (Nat.le_of_ble_eq_true rfl) (Nat.le_of_ble_eq_true rfl) ?_
  simp only [Int32.reduceToInt] at hw_2
  refine lv_iload_n hx hb dX11_line_11 rfl (lv_at hl 2 rfl) ?_
  refine lv_bipush (v := 102) hx hb dX11_line_12 (by decide) ?_
  have hPc := hP.sub (ws' := []) [] rfl
  have hDc := hD.sub (ws' := []) [] (by decide) rfl
  have hKc := hK.sub (tys' := []) [] rfl
  have hFc := va_free (wc := []) hD hS hA [] rfl
  refine vx_callv (vx_runS (As := [.int p1, .int 102]) (rest := []) ⟨hx, hb, hml, hown, ht⟩ (k_X11_checkNumber l hl0 _ D p1 102) (va_cwS 2 ht (zG_S zw_410 zw_411 zw_404 zw_412) rfl rfl rfl (by decide +kernel) ⟨Nat.le_of_ble_eq_true rfl, Nat.le_of_ble_eq_true rfl⟩) (zW_S hEx hS hFc hPc hKc hDc) rfl rfl hl.1 rfl (lv_room (Nat.le_of_ble_eq_true rfl)) dX11_line_14 ⟨Nat.le_of_ble_eq_true rfl, Nat.le_of_ble_eq_true rfl⟩) hS (fun q _ h => hFc q h) hFc (fun q _ h => hFc q h) (fun E ce q9 uu t H1 locs1 ht0 hvm hpx hB hz1 hk1 hS hcell hv hcl => ?_) (fun u_3 t H1 locs ht0 hvm hw_3 hB hz1 hk1 hS => ?_)
  · exact vx_out (fun x hx => (hexc x hx).elim) hlocks hcell hv hcl (fun t2 h2 hv2 => ⟨(), trivial, (by obtain ⟨hE, hb9⟩ := hB; (try simp only [Int32.reduceToInt] at hb9); exact .inr (.inl ⟨hE, (show zS_line p0 p1 p2 2 0 from (.inr (.inl ⟨rfl, by omega⟩)))⟩)), hS.F h2⟩) hS.2.2 (Nat.le_of_ble_eq_true rfl) (Nat.le_of_ble_eq_true rfl)
  obtain ⟨hP1, hK1, hD1⟩ := hB
  rw [ht0] at hP1
  have hK1 := va_K.moved hvm.symm hK1
  obtain ⟨hP, hD⟩ := va_join (wr := [((h 0), .inr (11, [.ref (h 1), .ref (h 9), .int 0, .int 0, .ref (h 20), .ref (h 37), .int 0, .ref (h 38), .ref (h 42), .ref (h 43), .ref (h 44), .ref (h 45), .ref (h 46), .ref (h 47), .ref (h 48)])), ((h 1), .inr (8, [.ref (h 2), .int 0, .ref (h 3), .ref (h 4), .int 0, .ref (h 5), .int 0, .ref (h 6), .int 0, .ref (h 7), .int 0])), ((h 3), .inl ((cs 9), 10, .inr (.inr (.inr (.inr (fun _ => none))))))]) (w1 := []) hP hD [] [0, 1, 2] rfl rfl (by decide) (by decide) hk1 hFc hP1 hD1
  generalize H1 = H at hP hS ⊢
  have hP : va_P D vwCl [((h 0), .inr (11, [.ref (h 1), .ref (h 9), .int 0, .int 0, .ref (h 20), .ref (h 37), .int 0, .ref (h 38), .ref (h 42), .ref (h 43), .ref (h 44), .ref (h 45), .ref (h 46), .ref (h 47), .ref (h 48)])), ((h 1), .inr (8, [.ref (h 2), .int 0, .ref (h 3), .ref (h 4), .int 0, .ref (h 5), .int 0, .ref (h 6), .int 0, .ref (h 7), .int 0])), ((h 3), .inl ((cs 9), 10, .inr (.inr (.inr (.inr (fun _ => none))))))] H := hP
  have hD : va_D A [((h 0), .inr (11, [.ref (h 1), .ref (h 9), .int 0, .int 0, .ref (h 20), .ref (h 37), .int 0, .ref (h 38), .ref (h 42), .ref (h 43), .ref (h 44), .ref (h 45), .ref (h 46), .ref (h 47), .ref (h 48)])), ((h 1), .inr (8, [.ref (h 2), .int 0, .ref (h 3), .ref (h 4), .int 0, .ref (h 5), .int 0, .ref (h 6), .int 0, .ref (h 7), .int 0])), ((h 3), .inl ((cs 9), 10, .inr (.inr (.inr (.inr (fun _ => none))))))] := hD
  refine W.widen (k := 3) (n := 18) (Nat.le_of_ble_eq_true rfl) (Nat.le_of_ble_eq_true rfl) ?_
  simp only [Int32.reduceToInt] at hw_3
  refine lv_aload_n hx hb dX11_line_17 rfl (lv_at hl 0 rfl) ?_
  refine lv_iload_n hx hb dX11_line_18 rfl (lv_at hl 3 rfl) ?_
  have hPc := hP.sub (ws' := [((h 0), .inr (11, [.ref (h 1), .ref (h 9), .int 0, .int 0, .ref (h 20), .ref (h 37), .int 0, .ref (h 38), .ref (h 42), .ref (h 43), .ref (h 44), .ref (h 45), .ref (h 46), .ref (h 47), .ref (h 48)])), ((h 1), .inr (8, [.ref (h 2), .int 0, .ref (h 3), .ref (h 4), .int 0, .ref (h 5), .int 0, .ref (h 6), .int 0, .ref (h 7), .int 0])), ((h 3), .inl ((cs 9), 10, .inr (.inr (.inr (.inr (fun _ => none))))))]) [0, 1, 2] rfl
  have hDc := hD.sub (ws' := [((h 0), .inr (11, [.ref (h 1), .ref (h 9), .int 0, .int 0, .ref (h 20), .ref (h 37), .int 0, .ref (h 38), .ref (h 42), .ref (h 43), .ref (h 44), .ref (h 45), .ref (h 46), .ref (h 47), .ref (h 48)])), ((h 1), .inr (8, [.ref (h 2), .int 0, .ref (h 3), .ref (h 4), .int 0, .ref (h 5), .int 0, .ref (h 6), .int 0, .ref (h 7), .int 0])), ((h 3), .inl ((cs 9), 10, .inr (.inr (.inr (.inr (fun _ => none))))))]) [0, 1, 2] (by decide) rfl
  have hKc := hK.sub (tys' := [((cs 9), .object RX9)]) [0] rfl
  have hFc := va_free (wc := [((h 0), .inr (11, [.ref (h 1), .ref (h 9), .int 0, .int 0, .ref (h 20), .ref (h 37), .int 0, .ref (h 38), .ref (h 42), .ref (h 43), .ref (h 44), .ref (h 45), .ref (h 46), .ref (h 47), .ref (h 48)])), ((h 1), .inr (8, [.ref (h 2), .int 0, .ref (h 3), .ref (h 4), .int 0, .ref (h 5), .int 0, .ref (h 6), .int 0, .ref (h 7), .int 0])), ((h 3), .inl ((cs 9), 10, .inr (.inr (.inr (.inr (fun _ => none))))))]) hD hS hA [0, 1, 2] rfl
  refine vx_callq (vx_runV (As := [.int p2]) (rest := []) ⟨hx, hb, hml, hown, ht⟩ (k_X11_filled l hl0 _ D h cs p2 hw_2) (cwV 1 ht (zG_V zw_406 zw_407 zw_408 zw_404 zw_409) rfl rfl rfl (by decide +kernel) ⟨Nat.le_of_ble_eq_true rfl, Nat.le_of_ble_eq_true rfl⟩) (zW_V (va_recv hK hP (ci := 11) (q0 := 0) rfl rfl) hEx hS hFc hPc hKc hDc) rfl rfl hl.1 rfl (lv_room (Nat.le_of_ble_eq_true rfl)) dX11_line_19 ⟨Nat.le_of_ble_eq_true rfl, Nat.le_of_ble_eq_true rfl⟩) hS (fun q _ h => hFc q h) hFc (fun q _ h => hFc q h) (fun E ce q9 uu t H1 locs1 ht0 hvm hpx hB hz1 hk1 hS hcell hv hcl => ?_) (fun r_4 u_4 t H1 locs ht0 hvm hw_4 hB hz1 hk1 hS => ?_)
  · exact vx_out (fun x hx => (hexc x hx).elim) hlocks hcell hv hcl (fun t2 h2 hv2 => ⟨(), trivial, (by obtain ⟨hE, hb9⟩ := hB; (try simp only [Int32.reduceToInt] at hb9); exact .inr (.inr (⟨hE, (show zS_line p0 p1 p2 3 0 from (.inr (.inr ⟨rfl, by omega⟩)))⟩))), hS.F h2⟩) hS.2.2 (Nat.le_of_ble_eq_true rfl) (Nat.le_of_ble_eq_true rfl)
  exact hw_4.elim
set_option maxHeartbeats 4000000 in
set_option maxRecDepth 100000 in
theorem k_X11_step (l : Launch) (hl0 : l.stackTraces = false) (sz : Nat) (D : va_G) (h cs : Nat → Nat) (p0 p1 p2 : Int32) : vx_Met l yX11_step (.code yX11_step cX11_step 7 (some .int) :: zT) ({ frames := 7, cells := 3, slots := 18, locals := 111 }) (va_Pc [.ref (h 0), .int p0, .int p1, .int p2] (zW D [((h 0), .inr (11, [.ref (h 1), .ref (h 9), .int 0, .int 0, .ref (h 20), .ref (h 37), .int 0, .ref (h 38), .ref (h 42), .ref (h 43), .ref (h 44), .ref (h 45), .ref (h 46), .ref (h 47), .ref (h 48)])), ((h 1), .inr (8, [.ref (h 2), .int 0, .ref (h 3), .ref (h 4), .int 0, .ref (h 5), .int 0, .ref (h 6), .int 0, .ref (h 7), .int 0])), ((h 4), .inl ((cs 4), 100, .inr (.inr (.inr (.inr (fun _ => none))))))] [((cs 4), .object RX4)] sz)) (va_Qi (fun (r : Int32) (_ : Unit) => zS_step p0 p1 p2 0 r) (fun _ t => zE D [] [] (va_A [((h 0), .inr (11, [.ref (h 1), .ref (h 9), .int 0, .int 0, .ref (h 20), .ref (h 37), .int 0, .ref (h 38), .ref (h 42), .ref (h 43), .ref (h 44), .ref (h 45), .ref (h 46), .ref (h 47), .ref (h 48)])), ((h 1), .inr (8, [.ref (h 2), .int 0, .ref (h 3), .ref (h 4), .int 0, .ref (h 5), .int 0, .ref (h 6), .int 0, .ref (h 7), .int 0])), ((h 4), .inl ((cs 4), 100, .inr (.inr (.inr (.inr (fun _ => none))))))] sz) t) (va_A [((h 0), .inr (11, [.ref (h 1), .ref (h 9), .int 0, .int 0, .ref (h 20), .ref (h 37), .int 0, .ref (h 38), .ref (h 42), .ref (h 43), .ref (h 44), .ref (h 45), .ref (h 46), .ref (h 47), .ref (h 48)])), ((h 1), .inr (8, [.ref (h 2), .int 0, .ref (h 3), .ref (h 4), .int 0, .ref (h 5), .int 0, .ref (h 6), .int 0, .ref (h 7), .int 0])), ((h 4), .inl ((cs 4), 100, .inr (.inr (.inr (.inr (fun _ => none))))))] sz)) (vx_X (fun _ : Unit => True) (fun E _ _ => (E = "java/lang/IndexOutOfBoundsException" ∧ zS_step p0 p1 p2 1 0) ∨ (E = "java/util/NoSuchElementException" ∧ zS_step p0 p1 p2 2 0)) (va_A [((h 0), .inr (11, [.ref (h 1), .ref (h 9), .int 0, .int 0, .ref (h 20), .ref (h 37), .int 0, .ref (h 38), .ref (h 42), .ref (h 43), .ref (h 44), .ref (h 45), .ref (h 46), .ref (h 47), .ref (h 48)])), ((h 1), .inr (8, [.ref (h 2), .int 0, .ref (h 3), .ref (h 4), .int 0, .ref (h 5), .int 0, .ref (h 6), .int 0, .ref (h 7), .int 0])), ((h 4), .inl ((cs 4), 100, .inr (.inr (.inr (.inr (fun _ => none))))))] sz)) 3 18 (va_A [((h 0), .inr (11, [.ref (h 1), .ref (h 9), .int 0, .int 0, .ref (h 20), .ref (h 37), .int 0, .ref (h 38), .ref (h 42), .ref (h 43), .ref (h 44), .ref (h 45), .ref (h 46), .ref (h 47), .ref (h 48)])), ((h 1), .inr (8, [.ref (h 2), .int 0, .ref (h 3), .ref (h 4), .int 0, .ref (h 5), .int 0, .ref (h 6), .int 0, .ref (h 7), .int 0])), ((h 4), .inl ((cs 4), 100, .inr (.inr (.inr (.inr (fun _ => none))))))] sz) := by
  refine vx_ofW (cc := cX11_step) (maxL := 7) (ret := (some .int)) (by decide) rfl ?_
  intro p e s m args below meth c s₁ B hml hexc hv
  obtain ⟨rfl, hEx, hsz, hP, hK, hD0⟩ := hv
  have hx := B.exec
  have hb := B.bytes
  have hr := B.returns
  have hts := atoms_spec (ws := (.code yX11_step cX11_step 7 (some .int) :: zT)) B.pre
  have ht : ∀ w ∈ zT, w.before _ s = true := fun w h => hts w (List.mem_cons_of_mem _ h)
  have hown : s.vm.findClass RX11 = some m.cls := findClass_of_methodNamed B.named
  have hlocks := B.notSynchronized
  subst hsz
  have hD := hD0.self (sz := s.heap.size)
  generalize hAe : va_A [((h 0), .inr (11, [.ref (h 1), .ref (h 9), .int 0, .int 0, .ref (h 20), .ref (h 37), .int 0, .ref (h 38), .ref (h 42), .ref (h 43), .ref (h 44), .ref (h 45), .ref (h 46), .ref (h 47), .ref (h 48)])), ((h 1), .inr (8, [.ref (h 2), .int 0, .ref (h 3), .ref (h 4), .int 0, .ref (h 5), .int 0, .ref (h 6), .int 0, .ref (h 7), .int 0])), ((h 4), .inl ((cs 4), 100, .inr (.inr (.inr (.inr (fun _ => none))))))] s.heap.size = A at hD hEx ⊢
  have hA : ∀ q : Nat, s.heap.size ≤ q → A q := fun q h => by rw [← hAe]; exact Or.inr h
  have hS : va_S A s.heap s.heap [] := va_S.rf
  have hP : va_P D vwCl [((h 0), .inr (11, [.ref (h 1), .ref (h 9), .int 0, .int 0, .ref (h 20), .ref (h 37), .int 0, .ref (h 38), .ref (h 42), .ref (h 43), .ref (h 44), .ref (h 45), .ref (h 46), .ref (h 47), .ref (h 48)])), ((h 1), .inr (8, [.ref (h 2), .int 0, .ref (h 3), .ref (h 4), .int 0, .ref (h 5), .int 0, .ref (h 6), .int 0, .ref (h 7), .int 0])), ((h 4), .inl ((cs 4), 100, .inr (.inr (.inr (.inr (fun _ => none))))))] s.heap := hP
  have hl := lv_entry ([.ref (h 0), .int p0, .int p1, .int p2]) (n := 7) (Nat.le_of_ble_eq_true rfl)
  rw [lg_entry_eq]
  generalize (lg_sl ([.ref (h 0), .int p0, .int p1, .int p2]) ++ List.replicate (7 - (lg_sl ([.ref (h 0), .int p0, .int p1, .int p2])).length) Slot.unset).toArray = ls at hl ⊢
  have hl : lv_has ls 7 [(0, .ref (h 0)), (1, .int p0), (2, .int p1), (3, .int p2)] := hl
  skip
  refine lv_iload_n hx hb dX11_step_0 rfl (lv_at hl 1 rfl) ?_
  refine lv_iconst (v := 4) hx hb dX11_step_1 (by decide) ?_
  have hPc := hP.sub (ws' := []) [] rfl
  have hDc := hD.sub (ws' := []) [] (by decide) rfl
  have hKc := hK.sub (tys' := []) [] rfl
  have hFc := va_free (wc := []) hD hS hA [] rfl
  refine vx_callv (vx_runS (As := [.int p0, .int 4]) (rest := []) ⟨hx, hb, hml, hown, ht⟩ (k_X11_checkIndex l hl0 _ D p0 4) (va_cwS 2 ht (zG_S zw_402 zw_403 zw_404 zw_405) rfl rfl rfl (by decide +kernel) ⟨Nat.le_of_ble_eq_true rfl, Nat.le_of_ble_eq_true rfl⟩) (zW_S hEx hS hFc hPc hKc hDc) rfl rfl hl.1 rfl (lv_room (Nat.le_of_ble_eq_true rfl)) dX11_step_2 ⟨Nat.le_of_ble_eq_true rfl, Nat.le_of_ble_eq_true rfl⟩) hS (fun q _ h => hFc q h) hFc (fun q _ h => hFc q h) (fun E ce q9 uu t H1 locs1 ht0 hvm hpx hB hz1 hk1 hS hcell hv hcl => ?_) (fun u_1 t H1 locs ht0 hvm hw_1 hB hz1 hk1 hS => ?_)
  · exact vx_out (fun x hx => (hexc x hx).elim) hlocks hcell hv hcl (fun t2 h2 hv2 => ⟨(), trivial, (by obtain ⟨hE, hb9⟩ := hB; (try simp only [Int32.reduceToInt] at hb9); exact .inl ⟨hE, (show zS_step p0 p1 p2 1 0 from (.inl ⟨rfl, by omega⟩))⟩), hS.F h2⟩) hS.2.2 (Nat.le_of_ble_eq_true rfl) (Nat.le_of_ble_eq_true rfl)
  obtain ⟨hP1, hK1, hD1⟩ := hB
  rw [ht0] at hP1
  have hK1 := va_K.moved hvm.symm hK1
  obtain ⟨hP, hD⟩ := va_join (wr := [((h 0), .inr (11, [.ref (h 1), .ref (h 9), .int 0, .int 0, .ref (h 20), .ref (h 37), .int 0, .ref (h 38), .ref (h 42), .ref (h 43), .ref (h 44), .ref (h 45), .ref (h 46), .ref (h 47), .ref (h 48)])), ((h 1), .inr (8, [.ref (h 2), .int 0, .ref (h 3), .ref (h 4), .int 0, .ref (h 5), .int 0, .ref (h 6), .int 0, .ref (h 7), .int 0])), ((h 4), .inl ((cs 4), 100, .inr (.inr (.inr (.inr (fun _ => none))))))]) (w1 := []) hP hD [] [0, 1, 2] rfl rfl (by decide) (by decide) hk1 hFc hP1 hD1
  generalize H1 = H at hP hS ⊢
  have hP : va_P D vwCl [((h 0), .inr (11, [.ref (h 1), .ref (h 9), .int 0, .int 0, .ref (h 20), .ref (h 37), .int 0, .ref (h 38), .ref (h 42), .ref (h 43), .ref (h 44), .ref (h 45), .ref (h 46), .ref (h 47), .ref (h 48)])), ((h 1), .inr (8, [.ref (h 2), .int 0, .ref (h 3), .ref (h 4), .int 0, .ref (h 5), .int 0, .ref (h 6), .int 0, .ref (h 7), .int 0])), ((h 4), .inl ((cs 4), 100, .inr (.inr (.inr (.inr (fun _ => none))))))] H := hP
  have hD : va_D A [((h 0), .inr (11, [.ref (h 1), .ref (h 9), .int 0, .int 0, .ref (h 20), .ref (h 37), .int 0, .ref (h 38), .ref (h 42), .ref (h 43), .ref (h 44), .ref (h 45), .ref (h 46), .ref (h 47), .ref (h 48)])), ((h 1), .inr (8, [.ref (h 2), .int 0, .ref (h 3), .ref (h 4), .int 0, .ref (h 5), .int 0, .ref (h 6), .int 0, .ref (h 7), .int 0])), ((h 4), .inl ((cs 4), 100, .inr (.inr (.inr (.inr (fun _ => none))))))] := hD
  refine W.widen (k := 1) (n := 6) (Nat.le_of_ble_eq_true rfl) (Nat.le_of_ble_eq_true rfl) ?_
  simp only [Int32.reduceToInt] at hw_1
  refine lv_iload_n hx hb dX11_step_5 rfl (lv_at hl 3 rfl) ?_
  refine lv_bipush (v := 10) hx hb dX11_step_6 (by decide) ?_
  have hPc := hP.sub (ws' := []) [] rfl
  have hDc := hD.sub (ws' := []) [] (by decide) rfl
  have hKc := hK.sub (tys' := []) [] rfl
  have hFc := va_free (wc := []) hD hS hA [] rfl
  refine vx_callv (vx_runS (As := [.int p2, .int 10]) (rest := []) ⟨hx, hb, hml, hown, ht⟩ (k_X11_checkIndex l hl0 _ D p2 10) (va_cwS 2 ht (zG_S zw_402 zw_403 zw_404 zw_405) rfl rfl rfl (by decide +kernel) ⟨Nat.le_of_ble_eq_true rfl, Nat.le_of_ble_eq_true rfl⟩) (zW_S hEx hS hFc hPc hKc hDc) rfl rfl hl.1 rfl (lv_room (Nat.le_of_ble_eq_true rfl)) dX11_step_8 ⟨Nat.le_of_ble_eq_true rfl, Nat.le_of_ble_eq_true rfl⟩) hS (fun q _ h => hFc q h) hFc (fun q _ h => hFc q h) (fun E ce q9 uu t H1 locs1 ht0 hvm hpx hB hz1 hk1 hS hcell hv hcl => ?_) (fun u_2 t H1 locs ht0 hvm hw_2 hB hz1 hk1 hS => ?_)
  · exact vx_out (fun x hx => (hexc x hx).elim) hlocks hcell hv hcl (fun t2 h2 hv2 => ⟨(), trivial, (by obtain ⟨hE, hb9⟩ := hB; (try simp only [Int32.reduceToInt] at hb9); exact .inl ⟨hE, (show zS_step p0 p1 p2 1 0 from (.inl ⟨rfl, by omega⟩))⟩), hS.F h2⟩) hS.2.2 (Nat.le_of_ble_eq_true rfl) (Nat.le_of_ble_eq_true rfl)
  obtain ⟨hP1, hK1, hD1⟩ := hB
  rw [ht0] at hP1
  have hK1 := va_K.moved hvm.symm hK1
  obtain ⟨hP, hD⟩ := va_join (wr := [((h 0), .inr (11, [.ref (h 1), .ref (h 9), .int 0, .int 0, .ref (h 20), .ref (h 37), .int 0, .ref (h 38), .ref (h 42), .ref (h 43), .ref (h 44), .ref (h 45), .ref (h 46), .ref (h 47), .ref (h 48)])), ((h 1), .inr (8, [.ref (h 2), .int 0, .ref (h 3), .ref (h 4), .int 0, .ref (h 5), .int 0, .ref (h 6), .int 0, .ref (h 7), .int 0])), ((h 4), .inl ((cs 4), 100, .inr (.inr (.inr (.inr (fun _ => none))))))]) (w1 := []) hP hD [] [0, 1, 2] rfl rfl (by decide) (by decide) hk1 hFc hP1 hD1
  generalize H1 = H at hP hS ⊢
  have hP : va_P D vwCl [((h 0), .inr (11, [.ref (h 1), .ref (h 9), .int 0, .int 0, .ref (h 20), .ref (h 37), .int 0, .ref (h 38), .ref (h 42), .ref (h 43), .ref (h 44), .ref (h 45), .ref (h 46), .ref (h 47), .ref (h 48)])), ((h 1), .inr (8, [.ref (h 2), .int 0, .ref (h 3), .ref (h 4), .int 0, .ref (h 5), .int 0, .ref (h 6), .int 0, .ref (h 7), .int 0])), ((h 4), .inl ((cs 4), 100, .inr (.inr (.inr (.inr (fun _ => none))))))] H := hP
  have hD : va_D A [((h 0), .inr (11, [.ref (h 1), .ref (h 9), .int 0, .int 0, .ref (h 20), .ref (h 37), .int 0, .ref (h 38), .ref (h 42), .ref (h 43), .ref (h 44), .ref (h 45), .ref (h 46), .ref (h 47), .ref (h 48)])), ((h 1), .inr (8, [.ref (h 2), .int 0, .ref (h 3), .ref (h 4), .int 0, .ref (h 5), .int 0, .ref (h 6), .int 0, .ref (h 7), .int 0])), ((h 4), .inl ((cs 4), 100, .inr (.inr (.inr (.inr (fun _ => none))))))] := hD
  refine W.widen (k := 2) (n := 12) (Nat.le_of_ble_eq_true rfl) (Nat.le_of_ble_eq_true rfl) ?_
  simp only [Int32.reduceToInt] at hw_2
  refine lv_aload_n hx hb dX11_step_11 rfl (lv_at hl 0 rfl) ?_
  refine va_get (D := D) (ci := 11) (v := .ref (h 1)) (C := RX11) (T := TX11) (N := 15) hx hb ht zinX11 hown hK hP 0 rfl rfl 0 (by decide) (ht _ zw_353) (fun _ h9 => h9) rfl dX11_step_12 ?_
  refine lv_iload_n hx hb dX11_step_15 rfl (lv_at hl 2 rfl) ?_
  refine lv_aload_n hx hb dX11_step_16 rfl (lv_at hl 0 rfl) ?_
  refine va_get (D := D) (ci := 11) (v := .ref (h 1)) (C := RX11) (T := TX11) (N := 15) hx hb ht zinX11 hown hK hP 0 rfl rfl 0 (by decide) (ht _ zw_353) (fun _ h9 => h9) rfl dX11_step_17 ?_
  refine vp_callSi (va_runV (As := []) (rest := [.int p1, .ref (h 1)]) ⟨hx, hb, hml, hown, ht⟩ (k_X8_allOpen l D h cs) (cwV 0 ht (zG_V zw_433 zw_434 zw_435 zw_334 zw_436) rfl rfl rfl (by decide +kernel) ⟨Nat.le_of_ble_eq_true rfl, Nat.le_of_ble_eq_true rfl⟩) (zR_V (va_recv hK hP (ci := 8) (q0 := 1) rfl rfl) (hP.sub (ws' := [((h 1), .inr (8, [.ref (h 2), .int 0, .ref (h 3), .ref (h 4), .int 0, .ref (h 5), .int 0, .ref (h 6), .int 0, .ref (h 7), .int 0]))]) [1] rfl) (hK.sub (tys' := []) [] rfl)) rfl rfl hl.1 rfl (lv_room (Nat.le_of_ble_eq_true rfl)) dX11_step_20 ⟨Nat.le_of_ble_eq_true rfl, Nat.le_of_ble_eq_true rfl⟩).run (fun r_3 hw_3 => ?_)
  obtain rfl : r_3 = 0 := hw_3
  refine va_csq (va_runV (As := [.int p1, .int 0]) (rest := []) ⟨hx, hb, hml, hown, ht⟩ (k_X8_lawOrAssumption l D h cs p1 0) (cwV 2 ht (zG_V zw_437 zw_438 zw_439 zw_334 zw_440) rfl rfl rfl (by decide +kernel) ⟨Nat.le_of_ble_eq_true rfl, Nat.le_of_ble_eq_true rfl⟩) (zR_V (va_recv hK hP (ci := 8) (q0 := 1) rfl rfl) (hP.sub (ws' := [((h 1), .inr (8, [.ref (h 2), .int 0, .ref (h 3), .ref (h 4), .int 0, .ref (h 5), .int 0, .ref (h 6), .int 0, .ref (h 7), .int 0])), ((h 4), .inl ((cs 4), 100, .inr (.inr (.inr (.inr (fun _ => none))))))]) [1, 2] rfl) hK) rfl rfl hl.1 rfl (lv_room (Nat.le_of_ble_eq_true rfl)) dX11_step_23 ⟨Nat.le_of_ble_eq_true rfl, Nat.le_of_ble_eq_true rfl⟩).run (fun r_4 hw_4 => ?_)
  obtain rfl := hw_4
  refine W.eq (g2 := F0 m 26 ls (.null :: [])) rfl ?_
  refine lv_astoreN (lv' := [(4, .null), (0, .ref (h 0)), (1, .int p0), (2, .int p1), (3, .int p2)]) hx hb dX11_step_26 hl (by decide) rfl (fun ls hl => ?_)
  refine lv_aloadN hx hb dX11_step_28 (lv_at hl 0 rfl) ?_
  refine lv_ifnonnullN hx hb dX11_step_30 ?_
  exact zthrow (k := 3) (names := ["java/lang/RuntimeException", "java/lang/Exception"]) (ix := 13) (rx := zThirteen) (text := "there is no such law or assumption") (is := 341) hx hb hl0 (by decide) (by decide) (by decide +kernel) (by decide +kernel) (by decide +kernel) (by decide +kernel) zw_399 zw_400 zAt_NSEE zOt_NSEE (by decide +kernel) (by decide +kernel) hown ht hEx hS (hl.1.trans hml.symm) dX11_step_33 dX11_step_36 (.inr ⟨dX11_step_37, rfl⟩) dX11_step_40 dX11_step_43 hexc (Nat.le_of_ble_eq_true rfl) (Nat.le_of_ble_eq_true rfl) (Nat.le_of_ble_eq_true rfl) (Nat.le_of_ble_eq_true rfl) hlocks (fun t hvm hF => ⟨(), trivial, (.inr (⟨rfl, (show zS_step p0 p1 p2 2 0 from (.inr ⟨rfl, by omega⟩))⟩)), hF⟩) hS.2.2 (Nat.le_of_ble_eq_true rfl) (Nat.le_of_ble_eq_true rfl)
set_option maxHeartbeats 4000000 in
set_option maxRecDepth 100000 in
theorem k_X11_term (l : Launch) (hl0 : l.stackTraces = false) (sz : Nat) (D : va_G) (h cs : Nat → Nat) (p0 p1 p2 p3 : Int32) : vx_Met l yX11_term (.code yX11_term cX11_term 8 (some .int) :: zT) ({ frames := 7, cells := 2, slots := 12, locals := 111 }) (va_Pc [.ref (h 0), .int p0, .int p1, .int p2, .int p3] (zW D [((h 0), .inr (11, [.ref (h 1), .ref (h 9), .int 0, .int 0, .ref (h 20), .ref (h 37), .int 0, .ref (h 38), .ref (h 42), .ref (h 43), .ref (h 44), .ref (h 45), .ref (h 46), .ref (h 47), .ref (h 48)])), ((h 1), .inr (8, [.ref (h 2), .int 0, .ref (h 3), .ref (h 4), .int 0, .ref (h 5), .int 0, .ref (h 6), .int 0, .ref (h 7), .int 0]))] [] sz)) (va_Qi (fun (r : Int32) (_ : Unit) => zS_term p0 p1 p2 p3 0 r) (fun _ t => zE D [] [] (va_A [((h 0), .inr (11, [.ref (h 1), .ref (h 9), .int 0, .int 0, .ref (h 20), .ref (h 37), .int 0, .ref (h 38), .ref (h 42), .ref (h 43), .ref (h 44), .ref (h 45), .ref (h 46), .ref (h 47), .ref (h 48)])), ((h 1), .inr (8, [.ref (h 2), .int 0, .ref (h 3), .ref (h 4), .int 0, .ref (h 5), .int 0, .ref (h 6), .int 0, .ref (h 7), .int 0]))] sz) t) (va_A [((h 0), .inr (11, [.ref (h 1), .ref (h 9), .int 0, .int 0, .ref (h 20), .ref (h 37), .int 0, .ref (h 38), .ref (h 42), .ref (h 43), .ref (h 44), .ref (h 45), .ref (h 46), .ref (h 47), .ref (h 48)])), ((h 1), .inr (8, [.ref (h 2), .int 0, .ref (h 3), .ref (h 4), .int 0, .ref (h 5), .int 0, .ref (h 6), .int 0, .ref (h 7), .int 0]))] sz)) (vx_X (fun _ : Unit => True) (fun E _ _ => (E = "java/lang/IndexOutOfBoundsException" ∧ zS_term p0 p1 p2 p3 1 0)) (va_A [((h 0), .inr (11, [.ref (h 1), .ref (h 9), .int 0, .int 0, .ref (h 20), .ref (h 37), .int 0, .ref (h 38), .ref (h 42), .ref (h 43), .ref (h 44), .ref (h 45), .ref (h 46), .ref (h 47), .ref (h 48)])), ((h 1), .inr (8, [.ref (h 2), .int 0, .ref (h 3), .ref (h 4), .int 0, .ref (h 5), .int 0, .ref (h 6), .int 0, .ref (h 7), .int 0]))] sz)) 2 12 (va_A [((h 0), .inr (11, [.ref (h 1), .ref (h 9), .int 0, .int 0, .ref (h 20), .ref (h 37), .int 0, .ref (h 38), .ref (h 42), .ref (h 43), .ref (h 44), .ref (h 45), .ref (h 46), .ref (h 47), .ref (h 48)])), ((h 1), .inr (8, [.ref (h 2), .int 0, .ref (h 3), .ref (h 4), .int 0, .ref (h 5), .int 0, .ref (h 6), .int 0, .ref (h 7), .int 0]))] sz) := by
  refine vx_ofW (cc := cX11_term) (maxL := 8) (ret := (some .int)) (by decide) rfl ?_
  intro p e s m args below meth c s₁ B hml hexc hv
  obtain ⟨rfl, hEx, hsz, hP, hK, hD0⟩ := hv
  have hx := B.exec
  have hb := B.bytes
  have hr := B.returns
  have hts := atoms_spec (ws := (.code yX11_term cX11_term 8 (some .int) :: zT)) B.pre
  have ht : ∀ w ∈ zT, w.before _ s = true := fun w h => hts w (List.mem_cons_of_mem _ h)
  have hown : s.vm.findClass RX11 = some m.cls := findClass_of_methodNamed B.named
  have hlocks := B.notSynchronized
  subst hsz
  have hD := hD0.self (sz := s.heap.size)
  generalize hAe : va_A [((h 0), .inr (11, [.ref (h 1), .ref (h 9), .int 0, .int 0, .ref (h 20), .ref (h 37), .int 0, .ref (h 38), .ref (h 42), .ref (h 43), .ref (h 44), .ref (h 45), .ref (h 46), .ref (h 47), .ref (h 48)])), ((h 1), .inr (8, [.ref (h 2), .int 0, .ref (h 3), .ref (h 4), .int 0, .ref (h 5), .int 0, .ref (h 6), .int 0, .ref (h 7), .int 0]))] s.heap.size = A at hD hEx ⊢
  have hA : ∀ q : Nat, s.heap.size ≤ q → A q := fun q h => by rw [← hAe]; exact Or.inr h
  have hS : va_S A s.heap s.heap [] := va_S.rf
  have hP : va_P D vwCl [((h 0), .inr (11, [.ref (h 1), .ref (h 9), .int 0, .int 0, .ref (h 20), .ref (h 37), .int 0, .ref (h 38), .ref (h 42), .ref (h 43), .ref (h 44), .ref (h 45), .ref (h 46), .ref (h 47), .ref (h 48)])), ((h 1), .inr (8, [.ref (h 2), .int 0, .ref (h 3), .ref (h 4), .int 0, .ref (h 5), .int 0, .ref (h 6), .int 0, .ref (h 7), .int 0]))] s.heap := hP
  have hl := lv_entry ([.ref (h 0), .int p0, .int p1, .int p2, .int p3]) (n := 8) (Nat.le_of_ble_eq_true rfl)
  rw [lg_entry_eq]
  generalize (lg_sl ([.ref (h 0), .int p0, .int p1, .int p2, .int p3]) ++ List.replicate (8 - (lg_sl ([.ref (h 0), .int p0, .int p1, .int p2, .int p3])).length) Slot.unset).toArray = ls at hl ⊢
  have hl : lv_has ls 8 [(0, .ref (h 0)), (1, .int p0), (2, .int p1), (3, .int p2), (4, .int p3)] := hl
  skip
  refine lv_iload_n hx hb dX11_term_0 rfl (lv_at hl 1 rfl) ?_
  refine lv_bipush (v := 10) hx hb dX11_term_1 (by decide) ?_
  have hPc := hP.sub (ws' := []) [] rfl
  have hDc := hD.sub (ws' := []) [] (by decide) rfl
  have hKc := hK.sub (tys' := []) [] rfl
  have hFc := va_free (wc := []) hD hS hA [] rfl
  refine vx_callv (vx_runS (As := [.int p0, .int 10]) (rest := []) ⟨hx, hb, hml, hown, ht⟩ (k_X11_checkIndex l hl0 _ D p0 10) (va_cwS 2 ht (zG_S zw_402 zw_403 zw_404 zw_405) rfl rfl rfl (by decide +kernel) ⟨Nat.le_of_ble_eq_true rfl, Nat.le_of_ble_eq_true rfl⟩) (zW_S hEx hS hFc hPc hKc hDc) rfl rfl hl.1 rfl (lv_room (Nat.le_of_ble_eq_true rfl)) dX11_term_3 ⟨Nat.le_of_ble_eq_true rfl, Nat.le_of_ble_eq_true rfl⟩) hS (fun q _ h => hFc q h) hFc (fun q _ h => hFc q h) (fun E ce q9 uu t H1 locs1 ht0 hvm hpx hB hz1 hk1 hS hcell hv hcl => ?_) (fun u_1 t H1 locs ht0 hvm hw_1 hB hz1 hk1 hS => ?_)
  · exact vx_out (fun x hx => (hexc x hx).elim) hlocks hcell hv hcl (fun t2 h2 hv2 => ⟨(), trivial, (by obtain ⟨hE, hb9⟩ := hB; (try simp only [Int32.reduceToInt] at hb9); exact ⟨hE, (show zS_term p0 p1 p2 p3 1 0 from ⟨rfl, by trivial⟩)⟩), hS.F h2⟩) hS.2.2 (Nat.le_of_ble_eq_true rfl) (Nat.le_of_ble_eq_true rfl)
  obtain ⟨hP1, hK1, hD1⟩ := hB
  rw [ht0] at hP1
  have hK1 := va_K.moved hvm.symm hK1
  obtain ⟨hP, hD⟩ := va_join (wr := [((h 0), .inr (11, [.ref (h 1), .ref (h 9), .int 0, .int 0, .ref (h 20), .ref (h 37), .int 0, .ref (h 38), .ref (h 42), .ref (h 43), .ref (h 44), .ref (h 45), .ref (h 46), .ref (h 47), .ref (h 48)])), ((h 1), .inr (8, [.ref (h 2), .int 0, .ref (h 3), .ref (h 4), .int 0, .ref (h 5), .int 0, .ref (h 6), .int 0, .ref (h 7), .int 0]))]) (w1 := []) hP hD [] [0, 1] rfl rfl (by decide) (by decide) hk1 hFc hP1 hD1
  generalize H1 = H at hP hS ⊢
  have hP : va_P D vwCl [((h 0), .inr (11, [.ref (h 1), .ref (h 9), .int 0, .int 0, .ref (h 20), .ref (h 37), .int 0, .ref (h 38), .ref (h 42), .ref (h 43), .ref (h 44), .ref (h 45), .ref (h 46), .ref (h 47), .ref (h 48)])), ((h 1), .inr (8, [.ref (h 2), .int 0, .ref (h 3), .ref (h 4), .int 0, .ref (h 5), .int 0, .ref (h 6), .int 0, .ref (h 7), .int 0]))] H := hP
  have hD : va_D A [((h 0), .inr (11, [.ref (h 1), .ref (h 9), .int 0, .int 0, .ref (h 20), .ref (h 37), .int 0, .ref (h 38), .ref (h 42), .ref (h 43), .ref (h 44), .ref (h 45), .ref (h 46), .ref (h 47), .ref (h 48)])), ((h 1), .inr (8, [.ref (h 2), .int 0, .ref (h 3), .ref (h 4), .int 0, .ref (h 5), .int 0, .ref (h 6), .int 0, .ref (h 7), .int 0]))] := hD
  refine W.widen (k := 1) (n := 6) (Nat.le_of_ble_eq_true rfl) (Nat.le_of_ble_eq_true rfl) ?_
  simp only [Int32.reduceToInt] at hw_1
  refine lv_iload_n hx hb dX11_term_6 rfl (lv_at hl 2 rfl) ?_
  refine lv_aload_n hx hb dX11_term_7 rfl (lv_at hl 0 rfl) ?_
  refine va_get (D := D) (ci := 11) (v := .ref (h 1)) (C := RX11) (T := TX11) (N := 15) hx hb ht zinX11 hown hK hP 0 rfl rfl 0 (by decide) (ht _ zw_353) (fun _ h9 => h9) rfl dX11_term_8 ?_
  refine va_get (D := D) (ci := 8) (v := .int 0) (C := RX8) (T := TX8) (N := 11) hx hb ht zinX8 hown hK hP 1 rfl rfl 1 (by decide) (ht _ zw_441) (fun _ h9 => h9) rfl dX11_term_11 ?_
  have hPc := hP.sub (ws' := []) [] rfl
  have hDc := hD.sub (ws' := []) [] (by decide) rfl
  have hKc := hK.sub (tys' := []) [] rfl
  have hFc := va_free (wc := []) hD hS hA [] rfl
  refine vx_callv (vx_runS (As := [.int p1, .int 0]) (rest := []) ⟨hx, hb, hml, hown, ht⟩ (k_X11_checkIndex l hl0 _ D p1 0) (va_cwS 2 ht (zG_S zw_402 zw_403 zw_404 zw_405) rfl rfl rfl (by decide +kernel) ⟨Nat.le_of_ble_eq_true rfl, Nat.le_of_ble_eq_true rfl⟩) (zW_S hEx hS hFc hPc hKc hDc) rfl rfl hl.1 rfl (lv_room (Nat.le_of_ble_eq_true rfl)) dX11_term_14 ⟨Nat.le_of_ble_eq_true rfl, Nat.le_of_ble_eq_true rfl⟩) hS (fun q _ h => hFc q h) hFc (fun q _ h => hFc q h) (fun E ce q9 uu t H1 locs1 ht0 hvm hpx hB hz1 hk1 hS hcell hv hcl => ?_) (fun u_2 t H1 locs ht0 hvm hw_2 hB hz1 hk1 hS => ?_)
  · exact vx_out (fun x hx => (hexc x hx).elim) hlocks hcell hv hcl (fun t2 h2 hv2 => ⟨(), trivial, (by obtain ⟨hE, hb9⟩ := hB; (try simp only [Int32.reduceToInt] at hb9); exact ⟨hE, (show zS_term p0 p1 p2 p3 1 0 from ⟨rfl, by trivial⟩)⟩), hS.F h2⟩) hS.2.2 (Nat.le_of_ble_eq_true rfl) (Nat.le_of_ble_eq_true rfl)
  obtain ⟨hP1, hK1, hD1⟩ := hB
  rw [ht0] at hP1
  have hK1 := va_K.moved hvm.symm hK1
  obtain ⟨hP, hD⟩ := va_join (wr := [((h 0), .inr (11, [.ref (h 1), .ref (h 9), .int 0, .int 0, .ref (h 20), .ref (h 37), .int 0, .ref (h 38), .ref (h 42), .ref (h 43), .ref (h 44), .ref (h 45), .ref (h 46), .ref (h 47), .ref (h 48)])), ((h 1), .inr (8, [.ref (h 2), .int 0, .ref (h 3), .ref (h 4), .int 0, .ref (h 5), .int 0, .ref (h 6), .int 0, .ref (h 7), .int 0]))]) (w1 := []) hP hD [] [0, 1] rfl rfl (by decide) (by decide) hk1 hFc hP1 hD1
  generalize H1 = H at hP hS ⊢
  have hP : va_P D vwCl [((h 0), .inr (11, [.ref (h 1), .ref (h 9), .int 0, .int 0, .ref (h 20), .ref (h 37), .int 0, .ref (h 38), .ref (h 42), .ref (h 43), .ref (h 44), .ref (h 45), .ref (h 46), .ref (h 47), .ref (h 48)])), ((h 1), .inr (8, [.ref (h 2), .int 0, .ref (h 3), .ref (h 4), .int 0, .ref (h 5), .int 0, .ref (h 6), .int 0, .ref (h 7), .int 0]))] H := hP
  have hD : va_D A [((h 0), .inr (11, [.ref (h 1), .ref (h 9), .int 0, .int 0, .ref (h 20), .ref (h 37), .int 0, .ref (h 38), .ref (h 42), .ref (h 43), .ref (h 44), .ref (h 45), .ref (h 46), .ref (h 47), .ref (h 48)])), ((h 1), .inr (8, [.ref (h 2), .int 0, .ref (h 3), .ref (h 4), .int 0, .ref (h 5), .int 0, .ref (h 6), .int 0, .ref (h 7), .int 0]))] := hD
  refine W.widen (k := 2) (n := 12) (Nat.le_of_ble_eq_true rfl) (Nat.le_of_ble_eq_true rfl) ?_
  simp only [Int32.reduceToInt] at hw_2
  exfalso; omega
set_option maxHeartbeats 4000000 in
set_option maxRecDepth 100000 in
theorem k_X11_undo (l : Launch) (hl0 : l.stackTraces = false) (sz : Nat) (D : va_G) (h cs : Nat → Nat) : vx_Met l yX11_undo (.code yX11_undo cX11_undo 1 (some .int) :: zT) ({ frames := 6, cells := 1, slots := 6, locals := 90 }) (va_Pc [.ref (h 0)] (zW D [((h 0), .inr (11, [.ref (h 1), .ref (h 9), .int 0, .int 0, .ref (h 20), .ref (h 37), .int 0, .ref (h 38), .ref (h 42), .ref (h 43), .ref (h 44), .ref (h 45), .ref (h 46), .ref (h 47), .ref (h 48)]))] [] sz)) (va_Qi (fun (r : Int32) (_ : Unit) => zS_undo 0 r) (fun _ t => zE D [] [] (va_A [((h 0), .inr (11, [.ref (h 1), .ref (h 9), .int 0, .int 0, .ref (h 20), .ref (h 37), .int 0, .ref (h 38), .ref (h 42), .ref (h 43), .ref (h 44), .ref (h 45), .ref (h 46), .ref (h 47), .ref (h 48)]))] sz) t) (va_A [((h 0), .inr (11, [.ref (h 1), .ref (h 9), .int 0, .int 0, .ref (h 20), .ref (h 37), .int 0, .ref (h 38), .ref (h 42), .ref (h 43), .ref (h 44), .ref (h 45), .ref (h 46), .ref (h 47), .ref (h 48)]))] sz)) (vx_X (fun _ : Unit => True) (fun E _ _ => (E = "java/lang/IllegalStateException" ∧ zS_undo 1 0)) (va_A [((h 0), .inr (11, [.ref (h 1), .ref (h 9), .int 0, .int 0, .ref (h 20), .ref (h 37), .int 0, .ref (h 38), .ref (h 42), .ref (h 43), .ref (h 44), .ref (h 45), .ref (h 46), .ref (h 47), .ref (h 48)]))] sz)) 1 6 (va_A [((h 0), .inr (11, [.ref (h 1), .ref (h 9), .int 0, .int 0, .ref (h 20), .ref (h 37), .int 0, .ref (h 38), .ref (h 42), .ref (h 43), .ref (h 44), .ref (h 45), .ref (h 46), .ref (h 47), .ref (h 48)]))] sz) := by
  refine vx_ofW (cc := cX11_undo) (maxL := 1) (ret := (some .int)) (by decide) rfl ?_
  intro p e s m args below meth c s₁ B hml hexc hv
  obtain ⟨rfl, hEx, hsz, hP, hK, hD0⟩ := hv
  have hx := B.exec
  have hb := B.bytes
  have hr := B.returns
  have hts := atoms_spec (ws := (.code yX11_undo cX11_undo 1 (some .int) :: zT)) B.pre
  have ht : ∀ w ∈ zT, w.before _ s = true := fun w h => hts w (List.mem_cons_of_mem _ h)
  have hown : s.vm.findClass RX11 = some m.cls := findClass_of_methodNamed B.named
  have hlocks := B.notSynchronized
  subst hsz
  have hD := hD0.self (sz := s.heap.size)
  generalize hAe : va_A [((h 0), .inr (11, [.ref (h 1), .ref (h 9), .int 0, .int 0, .ref (h 20), .ref (h 37), .int 0, .ref (h 38), .ref (h 42), .ref (h 43), .ref (h 44), .ref (h 45), .ref (h 46), .ref (h 47), .ref (h 48)]))] s.heap.size = A at hD hEx ⊢
  have hA : ∀ q : Nat, s.heap.size ≤ q → A q := fun q h => by rw [← hAe]; exact Or.inr h
  have hS : va_S A s.heap s.heap [] := va_S.rf
  have hP : va_P D vwCl [((h 0), .inr (11, [.ref (h 1), .ref (h 9), .int 0, .int 0, .ref (h 20), .ref (h 37), .int 0, .ref (h 38), .ref (h 42), .ref (h 43), .ref (h 44), .ref (h 45), .ref (h 46), .ref (h 47), .ref (h 48)]))] s.heap := hP
  have hl := lv_entry ([.ref (h 0)]) (n := 1) (Nat.le_of_ble_eq_true rfl)
  rw [lg_entry_eq]
  generalize (lg_sl ([.ref (h 0)]) ++ List.replicate (1 - (lg_sl ([.ref (h 0)])).length) Slot.unset).toArray = ls at hl ⊢
  have hl : lv_has ls 1 [(0, .ref (h 0))] := hl
  skip
  refine lv_aload_n hx hb dX11_undo_0 rfl (lv_at hl 0 rfl) ?_
  refine va_get (D := D) (ci := 11) (v := .int 0) (C := RX11) (T := TX11) (N := 15) hx hb ht zinX11 hown hK hP 0 rfl rfl 3 (by decide) (ht _ zw_357) (fun _ h9 => h9) rfl dX11_undo_1 ?_
  refine lv_if_ne (tgt := 18) hx hb dX11_undo_4 (by decide) (fun c_1 => ?_) (fun c_1 => ?_)
  · skip
    exact absurd c_1 (by decide)
  · skip
    exact zthrow (k := 3) (names := ["java/lang/RuntimeException", "java/lang/Exception"]) (ix := 7) (rx := zSix) (text := "there is no change to undo") (is := 396) hx hb hl0 (by decide) (by decide) (by decide +kernel) (by decide +kernel) (by decide +kernel) (by decide +kernel) zw_392 zw_393 zAt_ISE zOt_ISE (by decide +kernel) (by decide +kernel) hown ht hEx hS (hl.1.trans hml.symm) dX11_undo_7 dX11_undo_10 (.inr ⟨dX11_undo_11, rfl⟩) dX11_undo_14 dX11_undo_17 hexc (Nat.le_of_ble_eq_true rfl) (Nat.le_of_ble_eq_true rfl) (Nat.le_of_ble_eq_true rfl) (Nat.le_of_ble_eq_true rfl) hlocks (fun t hvm hF => ⟨(), trivial, (⟨rfl, (show zS_undo 1 0 from ⟨rfl, by trivial⟩)⟩), hF⟩) hS.2.2 (Nat.le_of_ble_eq_true rfl) (Nat.le_of_ble_eq_true rfl)
set_option maxHeartbeats 4000000 in
set_option maxRecDepth 100000 in
theorem k_X11_write (l : Launch) (hl0 : l.stackTraces = false) (sz : Nat) (D : va_G) (h cs : Nat → Nat) (p0 : Int32) : vx_Met l yX11_write (.code yX11_write cX11_write 3 (some .int) :: zT) ({ frames := 7, cells := 2, slots := 12, locals := 112 }) (va_Pc [.ref (h 0), .int p0] (zW D [((h 0), .inr (11, [.ref (h 1), .ref (h 9), .int 0, .int 0, .ref (h 20), .ref (h 37), .int 0, .ref (h 38), .ref (h 42), .ref (h 43), .ref (h 44), .ref (h 45), .ref (h 46), .ref (h 47), .ref (h 48)])), ((h 1), .inr (8, [.ref (h 2), .int 0, .ref (h 3), .ref (h 4), .int 0, .ref (h 5), .int 0, .ref (h 6), .int 0, .ref (h 7), .int 0])), ((h 3), .inl ((cs 9), 10, .inr (.inr (.inr (.inr (fun _ => none))))))] [((cs 9), .object RX9)] sz)) (va_Qi (fun (r : Int32) (_ : Unit) => zS_write p0 0 r) (fun _ t => zE D [] [] (va_A [((h 0), .inr (11, [.ref (h 1), .ref (h 9), .int 0, .int 0, .ref (h 20), .ref (h 37), .int 0, .ref (h 38), .ref (h 42), .ref (h 43), .ref (h 44), .ref (h 45), .ref (h 46), .ref (h 47), .ref (h 48)])), ((h 1), .inr (8, [.ref (h 2), .int 0, .ref (h 3), .ref (h 4), .int 0, .ref (h 5), .int 0, .ref (h 6), .int 0, .ref (h 7), .int 0])), ((h 3), .inl ((cs 9), 10, .inr (.inr (.inr (.inr (fun _ => none))))))] sz) t) (va_A [((h 0), .inr (11, [.ref (h 1), .ref (h 9), .int 0, .int 0, .ref (h 20), .ref (h 37), .int 0, .ref (h 38), .ref (h 42), .ref (h 43), .ref (h 44), .ref (h 45), .ref (h 46), .ref (h 47), .ref (h 48)])), ((h 1), .inr (8, [.ref (h 2), .int 0, .ref (h 3), .ref (h 4), .int 0, .ref (h 5), .int 0, .ref (h 6), .int 0, .ref (h 7), .int 0])), ((h 3), .inl ((cs 9), 10, .inr (.inr (.inr (.inr (fun _ => none))))))] sz)) (vx_X (fun _ : Unit => True) (fun E _ _ => (E = "java/lang/IndexOutOfBoundsException" ∧ zS_write p0 1 0) ∨ (E = "java/lang/IllegalStateException" ∧ zS_write p0 2 0)) (va_A [((h 0), .inr (11, [.ref (h 1), .ref (h 9), .int 0, .int 0, .ref (h 20), .ref (h 37), .int 0, .ref (h 38), .ref (h 42), .ref (h 43), .ref (h 44), .ref (h 45), .ref (h 46), .ref (h 47), .ref (h 48)])), ((h 1), .inr (8, [.ref (h 2), .int 0, .ref (h 3), .ref (h 4), .int 0, .ref (h 5), .int 0, .ref (h 6), .int 0, .ref (h 7), .int 0])), ((h 3), .inl ((cs 9), 10, .inr (.inr (.inr (.inr (fun _ => none))))))] sz)) 2 12 (va_A [((h 0), .inr (11, [.ref (h 1), .ref (h 9), .int 0, .int 0, .ref (h 20), .ref (h 37), .int 0, .ref (h 38), .ref (h 42), .ref (h 43), .ref (h 44), .ref (h 45), .ref (h 46), .ref (h 47), .ref (h 48)])), ((h 1), .inr (8, [.ref (h 2), .int 0, .ref (h 3), .ref (h 4), .int 0, .ref (h 5), .int 0, .ref (h 6), .int 0, .ref (h 7), .int 0])), ((h 3), .inl ((cs 9), 10, .inr (.inr (.inr (.inr (fun _ => none))))))] sz) := by
  refine vx_ofW (cc := cX11_write) (maxL := 3) (ret := (some .int)) (by decide) rfl ?_
  intro p e s m args below meth c s₁ B hml hexc hv
  obtain ⟨rfl, hEx, hsz, hP, hK, hD0⟩ := hv
  have hx := B.exec
  have hb := B.bytes
  have hr := B.returns
  have hts := atoms_spec (ws := (.code yX11_write cX11_write 3 (some .int) :: zT)) B.pre
  have ht : ∀ w ∈ zT, w.before _ s = true := fun w h => hts w (List.mem_cons_of_mem _ h)
  have hown : s.vm.findClass RX11 = some m.cls := findClass_of_methodNamed B.named
  have hlocks := B.notSynchronized
  subst hsz
  have hD := hD0.self (sz := s.heap.size)
  generalize hAe : va_A [((h 0), .inr (11, [.ref (h 1), .ref (h 9), .int 0, .int 0, .ref (h 20), .ref (h 37), .int 0, .ref (h 38), .ref (h 42), .ref (h 43), .ref (h 44), .ref (h 45), .ref (h 46), .ref (h 47), .ref (h 48)])), ((h 1), .inr (8, [.ref (h 2), .int 0, .ref (h 3), .ref (h 4), .int 0, .ref (h 5), .int 0, .ref (h 6), .int 0, .ref (h 7), .int 0])), ((h 3), .inl ((cs 9), 10, .inr (.inr (.inr (.inr (fun _ => none))))))] s.heap.size = A at hD hEx ⊢
  have hA : ∀ q : Nat, s.heap.size ≤ q → A q := fun q h => by rw [← hAe]; exact Or.inr h
  have hS : va_S A s.heap s.heap [] := va_S.rf
  have hP : va_P D vwCl [((h 0), .inr (11, [.ref (h 1), .ref (h 9), .int 0, .int 0, .ref (h 20), .ref (h 37), .int 0, .ref (h 38), .ref (h 42), .ref (h 43), .ref (h 44), .ref (h 45), .ref (h 46), .ref (h 47), .ref (h 48)])), ((h 1), .inr (8, [.ref (h 2), .int 0, .ref (h 3), .ref (h 4), .int 0, .ref (h 5), .int 0, .ref (h 6), .int 0, .ref (h 7), .int 0])), ((h 3), .inl ((cs 9), 10, .inr (.inr (.inr (.inr (fun _ => none))))))] s.heap := hP
  have hl := lv_entry ([.ref (h 0), .int p0]) (n := 3) (Nat.le_of_ble_eq_true rfl)
  rw [lg_entry_eq]
  generalize (lg_sl ([.ref (h 0), .int p0]) ++ List.replicate (3 - (lg_sl ([.ref (h 0), .int p0])).length) Slot.unset).toArray = ls at hl ⊢
  have hl : lv_has ls 3 [(0, .ref (h 0)), (1, .int p0)] := hl
  skip
  refine lv_iload_n hx hb dX11_write_0 rfl (lv_at hl 1 rfl) ?_
  refine lv_bipush (v := 10) hx hb dX11_write_1 (by decide) ?_
  have hPc := hP.sub (ws' := []) [] rfl
  have hDc := hD.sub (ws' := []) [] (by decide) rfl
  have hKc := hK.sub (tys' := []) [] rfl
  have hFc := va_free (wc := []) hD hS hA [] rfl
  refine vx_callv (vx_runS (As := [.int p0, .int 10]) (rest := []) ⟨hx, hb, hml, hown, ht⟩ (k_X11_checkIndex l hl0 _ D p0 10) (va_cwS 2 ht (zG_S zw_402 zw_403 zw_404 zw_405) rfl rfl rfl (by decide +kernel) ⟨Nat.le_of_ble_eq_true rfl, Nat.le_of_ble_eq_true rfl⟩) (zW_S hEx hS hFc hPc hKc hDc) rfl rfl hl.1 rfl (lv_room (Nat.le_of_ble_eq_true rfl)) dX11_write_3 ⟨Nat.le_of_ble_eq_true rfl, Nat.le_of_ble_eq_true rfl⟩) hS (fun q _ h => hFc q h) hFc (fun q _ h => hFc q h) (fun E ce q9 uu t H1 locs1 ht0 hvm hpx hB hz1 hk1 hS hcell hv hcl => ?_) (fun u_1 t H1 locs ht0 hvm hw_1 hB hz1 hk1 hS => ?_)
  · exact vx_out (fun x hx => (hexc x hx).elim) hlocks hcell hv hcl (fun t2 h2 hv2 => ⟨(), trivial, (by obtain ⟨hE, hb9⟩ := hB; (try simp only [Int32.reduceToInt] at hb9); exact .inl ⟨hE, (show zS_write p0 1 0 from (.inl ⟨rfl, by omega⟩))⟩), hS.F h2⟩) hS.2.2 (Nat.le_of_ble_eq_true rfl) (Nat.le_of_ble_eq_true rfl)
  obtain ⟨hP1, hK1, hD1⟩ := hB
  rw [ht0] at hP1
  have hK1 := va_K.moved hvm.symm hK1
  obtain ⟨hP, hD⟩ := va_join (wr := [((h 0), .inr (11, [.ref (h 1), .ref (h 9), .int 0, .int 0, .ref (h 20), .ref (h 37), .int 0, .ref (h 38), .ref (h 42), .ref (h 43), .ref (h 44), .ref (h 45), .ref (h 46), .ref (h 47), .ref (h 48)])), ((h 1), .inr (8, [.ref (h 2), .int 0, .ref (h 3), .ref (h 4), .int 0, .ref (h 5), .int 0, .ref (h 6), .int 0, .ref (h 7), .int 0])), ((h 3), .inl ((cs 9), 10, .inr (.inr (.inr (.inr (fun _ => none))))))]) (w1 := []) hP hD [] [0, 1, 2] rfl rfl (by decide) (by decide) hk1 hFc hP1 hD1
  generalize H1 = H at hP hS ⊢
  have hP : va_P D vwCl [((h 0), .inr (11, [.ref (h 1), .ref (h 9), .int 0, .int 0, .ref (h 20), .ref (h 37), .int 0, .ref (h 38), .ref (h 42), .ref (h 43), .ref (h 44), .ref (h 45), .ref (h 46), .ref (h 47), .ref (h 48)])), ((h 1), .inr (8, [.ref (h 2), .int 0, .ref (h 3), .ref (h 4), .int 0, .ref (h 5), .int 0, .ref (h 6), .int 0, .ref (h 7), .int 0])), ((h 3), .inl ((cs 9), 10, .inr (.inr (.inr (.inr (fun _ => none))))))] H := hP
  have hD : va_D A [((h 0), .inr (11, [.ref (h 1), .ref (h 9), .int 0, .int 0, .ref (h 20), .ref (h 37), .int 0, .ref (h 38), .ref (h 42), .ref (h 43), .ref (h 44), .ref (h 45), .ref (h 46), .ref (h 47), .ref (h 48)])), ((h 1), .inr (8, [.ref (h 2), .int 0, .ref (h 3), .ref (h 4), .int 0, .ref (h 5), .int 0, .ref (h 6), .int 0, .ref (h 7), .int 0])), ((h 3), .inl ((cs 9), 10, .inr (.inr (.inr (.inr (fun _ => none))))))] := hD
  refine W.widen (k := 1) (n := 6) (Nat.le_of_ble_eq_true rfl) (Nat.le_of_ble_eq_true rfl) ?_
  simp only [Int32.reduceToInt] at hw_1
  refine lv_aload_n hx hb dX11_write_6 rfl (lv_at hl 0 rfl) ?_
  refine lv_iload_n hx hb dX11_write_7 rfl (lv_at hl 1 rfl) ?_
  have hPc := hP.sub (ws' := [((h 0), .inr (11, [.ref (h 1), .ref (h 9), .int 0, .int 0, .ref (h 20), .ref (h 37), .int 0, .ref (h 38), .ref (h 42), .ref (h 43), .ref (h 44), .ref (h 45), .ref (h 46), .ref (h 47), .ref (h 48)])), ((h 1), .inr (8, [.ref (h 2), .int 0, .ref (h 3), .ref (h 4), .int 0, .ref (h 5), .int 0, .ref (h 6), .int 0, .ref (h 7), .int 0])), ((h 3), .inl ((cs 9), 10, .inr (.inr (.inr (.inr (fun _ => none))))))]) [0, 1, 2] rfl
  have hDc := hD.sub (ws' := [((h 0), .inr (11, [.ref (h 1), .ref (h 9), .int 0, .int 0, .ref (h 20), .ref (h 37), .int 0, .ref (h 38), .ref (h 42), .ref (h 43), .ref (h 44), .ref (h 45), .ref (h 46), .ref (h 47), .ref (h 48)])), ((h 1), .inr (8, [.ref (h 2), .int 0, .ref (h 3), .ref (h 4), .int 0, .ref (h 5), .int 0, .ref (h 6), .int 0, .ref (h 7), .int 0])), ((h 3), .inl ((cs 9), 10, .inr (.inr (.inr (.inr (fun _ => none))))))]) [0, 1, 2] (by decide) rfl
  have hKc := hK.sub (tys' := [((cs 9), .object RX9)]) [0] rfl
  have hFc := va_free (wc := [((h 0), .inr (11, [.ref (h 1), .ref (h 9), .int 0, .int 0, .ref (h 20), .ref (h 37), .int 0, .ref (h 38), .ref (h 42), .ref (h 43), .ref (h 44), .ref (h 45), .ref (h 46), .ref (h 47), .ref (h 48)])), ((h 1), .inr (8, [.ref (h 2), .int 0, .ref (h 3), .ref (h 4), .int 0, .ref (h 5), .int 0, .ref (h 6), .int 0, .ref (h 7), .int 0])), ((h 3), .inl ((cs 9), 10, .inr (.inr (.inr (.inr (fun _ => none))))))]) hD hS hA [0, 1, 2] rfl
  refine vx_callq (vx_runV (As := [.int p0]) (rest := []) ⟨hx, hb, hml, hown, ht⟩ (k_X11_filled l hl0 _ D h cs p0 hw_1) (cwV 1 ht (zG_V zw_406 zw_407 zw_408 zw_404 zw_409) rfl rfl rfl (by decide +kernel) ⟨Nat.le_of_ble_eq_true rfl, Nat.le_of_ble_eq_true rfl⟩) (zW_V (va_recv hK hP (ci := 11) (q0 := 0) rfl rfl) hEx hS hFc hPc hKc hDc) rfl rfl hl.1 rfl (lv_room (Nat.le_of_ble_eq_true rfl)) dX11_write_8 ⟨Nat.le_of_ble_eq_true rfl, Nat.le_of_ble_eq_true rfl⟩) hS (fun q _ h => hFc q h) hFc (fun q _ h => hFc q h) (fun E ce q9 uu t H1 locs1 ht0 hvm hpx hB hz1 hk1 hS hcell hv hcl => ?_) (fun r_2 u_2 t H1 locs ht0 hvm hw_2 hB hz1 hk1 hS => ?_)
  · exact vx_out (fun x hx => (hexc x hx).elim) hlocks hcell hv hcl (fun t2 h2 hv2 => ⟨(), trivial, (by obtain ⟨hE, hb9⟩ := hB; (try simp only [Int32.reduceToInt] at hb9); exact .inr (⟨hE, (show zS_write p0 2 0 from (.inr ⟨rfl, by omega⟩))⟩)), hS.F h2⟩) hS.2.2 (Nat.le_of_ble_eq_true rfl) (Nat.le_of_ble_eq_true rfl)
  exact hw_2.elim
set_option maxHeartbeats 4000000 in
set_option maxRecDepth 100000 in
theorem k_X11_writeLaw (l : Launch) (hl0 : l.stackTraces = false) (sz : Nat) (D : va_G) (h cs : Nat → Nat) (p0 : Int32) : vx_Met l yX11_writeLaw (.code yX11_writeLaw cX11_writeLaw 3 (some .int) :: zT) ({ frames := 7, cells := 1, slots := 6, locals := 112 }) (va_Pc [.ref (h 0), .int p0] (zW D [((h 0), .inr (11, [.ref (h 1), .ref (h 9), .int 0, .int 0, .ref (h 20), .ref (h 37), .int 0, .ref (h 38), .ref (h 42), .ref (h 43), .ref (h 44), .ref (h 45), .ref (h 46), .ref (h 47), .ref (h 48)])), ((h 1), .inr (8, [.ref (h 2), .int 0, .ref (h 3), .ref (h 4), .int 0, .ref (h 5), .int 0, .ref (h 6), .int 0, .ref (h 7), .int 0])), ((h 4), .inl ((cs 4), 100, .inr (.inr (.inr (.inr (fun _ => none))))))] [((cs 4), .object RX4)] sz)) (va_Qi (fun (r : Int32) (_ : Unit) => zS_writeLaw p0 0 r) (fun _ t => zE D [] [] (va_A [((h 0), .inr (11, [.ref (h 1), .ref (h 9), .int 0, .int 0, .ref (h 20), .ref (h 37), .int 0, .ref (h 38), .ref (h 42), .ref (h 43), .ref (h 44), .ref (h 45), .ref (h 46), .ref (h 47), .ref (h 48)])), ((h 1), .inr (8, [.ref (h 2), .int 0, .ref (h 3), .ref (h 4), .int 0, .ref (h 5), .int 0, .ref (h 6), .int 0, .ref (h 7), .int 0])), ((h 4), .inl ((cs 4), 100, .inr (.inr (.inr (.inr (fun _ => none))))))] sz) t) (va_A [((h 0), .inr (11, [.ref (h 1), .ref (h 9), .int 0, .int 0, .ref (h 20), .ref (h 37), .int 0, .ref (h 38), .ref (h 42), .ref (h 43), .ref (h 44), .ref (h 45), .ref (h 46), .ref (h 47), .ref (h 48)])), ((h 1), .inr (8, [.ref (h 2), .int 0, .ref (h 3), .ref (h 4), .int 0, .ref (h 5), .int 0, .ref (h 6), .int 0, .ref (h 7), .int 0])), ((h 4), .inl ((cs 4), 100, .inr (.inr (.inr (.inr (fun _ => none))))))] sz)) (vx_X (fun _ : Unit => True) (fun E _ _ => (E = "java/util/NoSuchElementException" ∧ zS_writeLaw p0 1 0)) (va_A [((h 0), .inr (11, [.ref (h 1), .ref (h 9), .int 0, .int 0, .ref (h 20), .ref (h 37), .int 0, .ref (h 38), .ref (h 42), .ref (h 43), .ref (h 44), .ref (h 45), .ref (h 46), .ref (h 47), .ref (h 48)])), ((h 1), .inr (8, [.ref (h 2), .int 0, .ref (h 3), .ref (h 4), .int 0, .ref (h 5), .int 0, .ref (h 6), .int 0, .ref (h 7), .int 0])), ((h 4), .inl ((cs 4), 100, .inr (.inr (.inr (.inr (fun _ => none))))))] sz)) 1 6 (va_A [((h 0), .inr (11, [.ref (h 1), .ref (h 9), .int 0, .int 0, .ref (h 20), .ref (h 37), .int 0, .ref (h 38), .ref (h 42), .ref (h 43), .ref (h 44), .ref (h 45), .ref (h 46), .ref (h 47), .ref (h 48)])), ((h 1), .inr (8, [.ref (h 2), .int 0, .ref (h 3), .ref (h 4), .int 0, .ref (h 5), .int 0, .ref (h 6), .int 0, .ref (h 7), .int 0])), ((h 4), .inl ((cs 4), 100, .inr (.inr (.inr (.inr (fun _ => none))))))] sz) := by
  refine vx_ofW (cc := cX11_writeLaw) (maxL := 3) (ret := (some .int)) (by decide) rfl ?_
  intro p e s m args below meth c s₁ B hml hexc hv
  obtain ⟨rfl, hEx, hsz, hP, hK, hD0⟩ := hv
  have hx := B.exec
  have hb := B.bytes
  have hr := B.returns
  have hts := atoms_spec (ws := (.code yX11_writeLaw cX11_writeLaw 3 (some .int) :: zT)) B.pre
  have ht : ∀ w ∈ zT, w.before _ s = true := fun w h => hts w (List.mem_cons_of_mem _ h)
  have hown : s.vm.findClass RX11 = some m.cls := findClass_of_methodNamed B.named
  have hlocks := B.notSynchronized
  subst hsz
  have hD := hD0.self (sz := s.heap.size)
  generalize hAe : va_A [((h 0), .inr (11, [.ref (h 1), .ref (h 9), .int 0, .int 0, .ref (h 20), .ref (h 37), .int 0, .ref (h 38), .ref (h 42), .ref (h 43), .ref (h 44), .ref (h 45), .ref (h 46), .ref (h 47), .ref (h 48)])), ((h 1), .inr (8, [.ref (h 2), .int 0, .ref (h 3), .ref (h 4), .int 0, .ref (h 5), .int 0, .ref (h 6), .int 0, .ref (h 7), .int 0])), ((h 4), .inl ((cs 4), 100, .inr (.inr (.inr (.inr (fun _ => none))))))] s.heap.size = A at hD hEx ⊢
  have hA : ∀ q : Nat, s.heap.size ≤ q → A q := fun q h => by rw [← hAe]; exact Or.inr h
  have hS : va_S A s.heap s.heap [] := va_S.rf
  have hP : va_P D vwCl [((h 0), .inr (11, [.ref (h 1), .ref (h 9), .int 0, .int 0, .ref (h 20), .ref (h 37), .int 0, .ref (h 38), .ref (h 42), .ref (h 43), .ref (h 44), .ref (h 45), .ref (h 46), .ref (h 47), .ref (h 48)])), ((h 1), .inr (8, [.ref (h 2), .int 0, .ref (h 3), .ref (h 4), .int 0, .ref (h 5), .int 0, .ref (h 6), .int 0, .ref (h 7), .int 0])), ((h 4), .inl ((cs 4), 100, .inr (.inr (.inr (.inr (fun _ => none))))))] s.heap := hP
  have hl := lv_entry ([.ref (h 0), .int p0]) (n := 3) (Nat.le_of_ble_eq_true rfl)
  rw [lg_entry_eq]
  generalize (lg_sl ([.ref (h 0), .int p0]) ++ List.replicate (3 - (lg_sl ([.ref (h 0), .int p0])).length) Slot.unset).toArray = ls at hl ⊢
  have hl : lv_has ls 3 [(0, .ref (h 0)), (1, .int p0)] := hl
  skip
  refine lv_aload_n hx hb dX11_writeLaw_0 rfl (lv_at hl 0 rfl) ?_
  refine lv_iload_n hx hb dX11_writeLaw_1 rfl (lv_at hl 1 rfl) ?_
  have hPc := hP.sub (ws' := [((h 0), .inr (11, [.ref (h 1), .ref (h 9), .int 0, .int 0, .ref (h 20), .ref (h 37), .int 0, .ref (h 38), .ref (h 42), .ref (h 43), .ref (h 44), .ref (h 45), .ref (h 46), .ref (h 47), .ref (h 48)])), ((h 1), .inr (8, [.ref (h 2), .int 0, .ref (h 3), .ref (h 4), .int 0, .ref (h 5), .int 0, .ref (h 6), .int 0, .ref (h 7), .int 0])), ((h 4), .inl ((cs 4), 100, .inr (.inr (.inr (.inr (fun _ => none))))))]) [0, 1, 2] rfl
  have hDc := hD.sub (ws' := [((h 0), .inr (11, [.ref (h 1), .ref (h 9), .int 0, .int 0, .ref (h 20), .ref (h 37), .int 0, .ref (h 38), .ref (h 42), .ref (h 43), .ref (h 44), .ref (h 45), .ref (h 46), .ref (h 47), .ref (h 48)])), ((h 1), .inr (8, [.ref (h 2), .int 0, .ref (h 3), .ref (h 4), .int 0, .ref (h 5), .int 0, .ref (h 6), .int 0, .ref (h 7), .int 0])), ((h 4), .inl ((cs 4), 100, .inr (.inr (.inr (.inr (fun _ => none))))))]) [0, 1, 2] (by decide) rfl
  have hKc := hK.sub (tys' := [((cs 4), .object RX4)]) [0] rfl
  have hFc := va_free (wc := [((h 0), .inr (11, [.ref (h 1), .ref (h 9), .int 0, .int 0, .ref (h 20), .ref (h 37), .int 0, .ref (h 38), .ref (h 42), .ref (h 43), .ref (h 44), .ref (h 45), .ref (h 46), .ref (h 47), .ref (h 48)])), ((h 1), .inr (8, [.ref (h 2), .int 0, .ref (h 3), .ref (h 4), .int 0, .ref (h 5), .int 0, .ref (h 6), .int 0, .ref (h 7), .int 0])), ((h 4), .inl ((cs 4), 100, .inr (.inr (.inr (.inr (fun _ => none))))))]) hD hS hA [0, 1, 2] rfl
  refine vx_callq (vx_runV (As := [.int p0]) (rest := []) ⟨hx, hb, hml, hown, ht⟩ (k_X11_lawThere l hl0 _ D h cs p0) (cwV 1 ht (zG_V zw_425 zw_426 zw_427 zw_404 zw_428) rfl rfl rfl (by decide +kernel) ⟨Nat.le_of_ble_eq_true rfl, Nat.le_of_ble_eq_true rfl⟩) (zW_V (va_recv hK hP (ci := 11) (q0 := 0) rfl rfl) hEx hS hFc hPc hKc hDc) rfl rfl hl.1 rfl (lv_room (Nat.le_of_ble_eq_true rfl)) dX11_writeLaw_2 ⟨Nat.le_of_ble_eq_true rfl, Nat.le_of_ble_eq_true rfl⟩) hS (fun q _ h => hFc q h) hFc (fun q _ h => hFc q h) (fun E ce q9 uu t H1 locs1 ht0 hvm hpx hB hz1 hk1 hS hcell hv hcl => ?_) (fun r_1 u_1 t H1 locs ht0 hvm hw_1 hB hz1 hk1 hS => ?_)
  · exact vx_out (fun x hx => (hexc x hx).elim) hlocks hcell hv hcl (fun t2 h2 hv2 => ⟨(), trivial, (by obtain ⟨hE, hb9⟩ := hB; (try simp only [Int32.reduceToInt] at hb9); exact ⟨hE, (show zS_writeLaw p0 1 0 from ⟨rfl, by trivial⟩)⟩), hS.F h2⟩) hS.2.2 (Nat.le_of_ble_eq_true rfl) (Nat.le_of_ble_eq_true rfl)
  exact hw_1.elim
set_option maxHeartbeats 4000000 in
set_option maxRecDepth 100000 in
theorem k_X11_outputAt (l : Launch) (hl0 : l.stackTraces = false) (sz : Nat) (D : va_G) (h cs : Nat → Nat) (p0 : Int32) : vx_Met l yX11_outputAt (.code yX11_outputAt cX11_outputAt 2 (some .int) :: zT) ({ frames := 6, cells := 1, slots := 6, locals := 90 }) (va_Pc [.ref (h 0), .int p0] (zW D [((h 0), .inr (11, [.ref (h 1), .ref (h 9), .int 0, .int 0, .ref (h 20), .ref (h 37), .int 0, .ref (h 38), .ref (h 42), .ref (h 43), .ref (h 44), .ref (h 45), .ref (h 46), .ref (h 47), .ref (h 48)])), ((h 42), .inr (10, [.ref (h 81), .int 0, .ref (h 82), .int 0, .ref (h 83), .int 0, .int 0]))] [] sz)) (va_Qi (fun (r : Int32) (_ : Unit) => zS_outputAt p0 0 r) (fun _ t => zE D [] [] (va_A [((h 0), .inr (11, [.ref (h 1), .ref (h 9), .int 0, .int 0, .ref (h 20), .ref (h 37), .int 0, .ref (h 38), .ref (h 42), .ref (h 43), .ref (h 44), .ref (h 45), .ref (h 46), .ref (h 47), .ref (h 48)])), ((h 42), .inr (10, [.ref (h 81), .int 0, .ref (h 82), .int 0, .ref (h 83), .int 0, .int 0]))] sz) t) (va_A [((h 0), .inr (11, [.ref (h 1), .ref (h 9), .int 0, .int 0, .ref (h 20), .ref (h 37), .int 0, .ref (h 38), .ref (h 42), .ref (h 43), .ref (h 44), .ref (h 45), .ref (h 46), .ref (h 47), .ref (h 48)])), ((h 42), .inr (10, [.ref (h 81), .int 0, .ref (h 82), .int 0, .ref (h 83), .int 0, .int 0]))] sz)) (vx_X (fun _ : Unit => True) (fun E _ _ => (E = "java/util/NoSuchElementException" ∧ zS_outputAt p0 1 0)) (va_A [((h 0), .inr (11, [.ref (h 1), .ref (h 9), .int 0, .int 0, .ref (h 20), .ref (h 37), .int 0, .ref (h 38), .ref (h 42), .ref (h 43), .ref (h 44), .ref (h 45), .ref (h 46), .ref (h 47), .ref (h 48)])), ((h 42), .inr (10, [.ref (h 81), .int 0, .ref (h 82), .int 0, .ref (h 83), .int 0, .int 0]))] sz)) 1 6 (va_A [((h 0), .inr (11, [.ref (h 1), .ref (h 9), .int 0, .int 0, .ref (h 20), .ref (h 37), .int 0, .ref (h 38), .ref (h 42), .ref (h 43), .ref (h 44), .ref (h 45), .ref (h 46), .ref (h 47), .ref (h 48)])), ((h 42), .inr (10, [.ref (h 81), .int 0, .ref (h 82), .int 0, .ref (h 83), .int 0, .int 0]))] sz) := by
  refine vx_ofW (cc := cX11_outputAt) (maxL := 2) (ret := (some .int)) (by decide) rfl ?_
  intro p e s m args below meth c s₁ B hml hexc hv
  obtain ⟨rfl, hEx, hsz, hP, hK, hD0⟩ := hv
  have hx := B.exec
  have hb := B.bytes
  have hr := B.returns
  have hts := atoms_spec (ws := (.code yX11_outputAt cX11_outputAt 2 (some .int) :: zT)) B.pre
  have ht : ∀ w ∈ zT, w.before _ s = true := fun w h => hts w (List.mem_cons_of_mem _ h)
  have hown : s.vm.findClass RX11 = some m.cls := findClass_of_methodNamed B.named
  have hlocks := B.notSynchronized
  subst hsz
  have hD := hD0.self (sz := s.heap.size)
  generalize hAe : va_A [((h 0), .inr (11, [.ref (h 1), .ref (h 9), .int 0, .int 0, .ref (h 20), .ref (h 37), .int 0, .ref (h 38), .ref (h 42), .ref (h 43), .ref (h 44), .ref (h 45), .ref (h 46), .ref (h 47), .ref (h 48)])), ((h 42), .inr (10, [.ref (h 81), .int 0, .ref (h 82), .int 0, .ref (h 83), .int 0, .int 0]))] s.heap.size = A at hD hEx ⊢
  have hA : ∀ q : Nat, s.heap.size ≤ q → A q := fun q h => by rw [← hAe]; exact Or.inr h
  have hS : va_S A s.heap s.heap [] := va_S.rf
  have hP : va_P D vwCl [((h 0), .inr (11, [.ref (h 1), .ref (h 9), .int 0, .int 0, .ref (h 20), .ref (h 37), .int 0, .ref (h 38), .ref (h 42), .ref (h 43), .ref (h 44), .ref (h 45), .ref (h 46), .ref (h 47), .ref (h 48)])), ((h 42), .inr (10, [.ref (h 81), .int 0, .ref (h 82), .int 0, .ref (h 83), .int 0, .int 0]))] s.heap := hP
  have hl := lv_entry ([.ref (h 0), .int p0]) (n := 2) (Nat.le_of_ble_eq_true rfl)
  rw [lg_entry_eq]
  generalize (lg_sl ([.ref (h 0), .int p0]) ++ List.replicate (2 - (lg_sl ([.ref (h 0), .int p0])).length) Slot.unset).toArray = ls at hl ⊢
  have hl : lv_has ls 2 [(0, .ref (h 0)), (1, .int p0)] := hl
  skip
  refine lv_iload_n hx hb dX11_outputAt_0 rfl (lv_at hl 1 rfl) ?_
  refine lv_if_lt (tgt := 15) hx hb dX11_outputAt_1 (by decide) (fun c_1 => ?_) (fun c_1 => ?_)
  · skip
    simp only [fa_lt, fa_le, fa_eq, Int32.reduceToInt] at c_1
    exact zthrow (k := 3) (names := ["java/lang/RuntimeException", "java/lang/Exception"]) (ix := 13) (rx := zThirteen) (text := "there is no such character") (is := 412) hx hb hl0 (by decide) (by decide) (by decide +kernel) (by decide +kernel) (by decide +kernel) (by decide +kernel) zw_399 zw_400 zAt_NSEE zOt_NSEE (by decide +kernel) (by decide +kernel) hown ht hEx hS (hl.1.trans hml.symm) dX11_outputAt_15 dX11_outputAt_18 (.inr ⟨dX11_outputAt_19, rfl⟩) dX11_outputAt_22 dX11_outputAt_25 hexc (Nat.le_of_ble_eq_true rfl) (Nat.le_of_ble_eq_true rfl) (Nat.le_of_ble_eq_true rfl) (Nat.le_of_ble_eq_true rfl) hlocks (fun t hvm hF => ⟨(), trivial, (⟨rfl, (show zS_outputAt p0 1 0 from ⟨rfl, by trivial⟩)⟩), hF⟩) hS.2.2 (Nat.le_of_ble_eq_true rfl) (Nat.le_of_ble_eq_true rfl)
  · skip
    simp only [fa_lt, fa_le, fa_eq, Int32.reduceToInt] at c_1
    refine lv_iload_n hx hb dX11_outputAt_4 rfl (lv_at hl 1 rfl) ?_
    refine lv_aload_n hx hb dX11_outputAt_5 rfl (lv_at hl 0 rfl) ?_
    refine va_get (D := D) (ci := 11) (v := .ref (h 42)) (C := RX11) (T := TX11) (N := 15) hx hb ht zinX11 hown hK hP 0 rfl rfl 8 (by decide) (ht _ zw_368) (fun _ h9 => h9) rfl dX11_outputAt_6 ?_
    refine va_get (D := D) (ci := 10) (v := .int 0) (C := RX10) (T := TX10) (N := 7) hx hb ht zinX10 hown hK hP 1 rfl rfl 1 (by decide) (ht _ zw_442) (fun _ h9 => h9) rfl dX11_outputAt_9 ?_
    refine lv_icmp_lt (tgt := 26) hx hb dX11_outputAt_12 (by decide) (fun c_2 => ?_) (fun c_2 => ?_)
    · skip
      simp only [fa_lt, fa_le, fa_eq, Int32.reduceToInt] at c_2
      exfalso; omega
    · skip
      simp only [fa_lt, fa_le, fa_eq, Int32.reduceToInt] at c_2
      exact zthrow (k := 3) (names := ["java/lang/RuntimeException", "java/lang/Exception"]) (ix := 13) (rx := zThirteen) (text := "there is no such character") (is := 412) hx hb hl0 (by decide) (by decide) (by decide +kernel) (by decide +kernel) (by decide +kernel) (by decide +kernel) zw_399 zw_400 zAt_NSEE zOt_NSEE (by decide +kernel) (by decide +kernel) hown ht hEx hS (hl.1.trans hml.symm) dX11_outputAt_15 dX11_outputAt_18 (.inr ⟨dX11_outputAt_19, rfl⟩) dX11_outputAt_22 dX11_outputAt_25 hexc (Nat.le_of_ble_eq_true rfl) (Nat.le_of_ble_eq_true rfl) (Nat.le_of_ble_eq_true rfl) (Nat.le_of_ble_eq_true rfl) hlocks (fun t hvm hF => ⟨(), trivial, (⟨rfl, (show zS_outputAt p0 1 0 from ⟨rfl, by trivial⟩)⟩), hF⟩) hS.2.2 (Nat.le_of_ble_eq_true rfl) (Nat.le_of_ble_eq_true rfl)
set_option maxHeartbeats 4000000 in
set_option maxRecDepth 100000 in
theorem k_X11_direction (l : Launch) (hl0 : l.stackTraces = false) (sz : Nat) (D : va_G) (h cs : Nat → Nat) (p0 p1 : Int32) : vx_Met l yX11_direction (.code yX11_direction cX11_direction 4 (some .int) :: zT) ({ frames := 7, cells := 2, slots := 12, locals := 112 }) (va_Pc [.ref (h 0), .int p0, .int p1] (zW D [((h 0), .inr (11, [.ref (h 1), .ref (h 9), .int 0, .int 0, .ref (h 20), .ref (h 37), .int 0, .ref (h 38), .ref (h 42), .ref (h 43), .ref (h 44), .ref (h 45), .ref (h 46), .ref (h 47), .ref (h 48)])), ((h 1), .inr (8, [.ref (h 2), .int 0, .ref (h 3), .ref (h 4), .int 0, .ref (h 5), .int 0, .ref (h 6), .int 0, .ref (h 7), .int 0])), ((h 3), .inl ((cs 9), 10, .inr (.inr (.inr (.inr (fun _ => none))))))] [((cs 9), .object RX9)] sz)) (va_Qi (fun (r : Int32) (_ : Unit) => zS_direction p0 p1 0 r) (fun _ t => zE D [] [] (va_A [((h 0), .inr (11, [.ref (h 1), .ref (h 9), .int 0, .int 0, .ref (h 20), .ref (h 37), .int 0, .ref (h 38), .ref (h 42), .ref (h 43), .ref (h 44), .ref (h 45), .ref (h 46), .ref (h 47), .ref (h 48)])), ((h 1), .inr (8, [.ref (h 2), .int 0, .ref (h 3), .ref (h 4), .int 0, .ref (h 5), .int 0, .ref (h 6), .int 0, .ref (h 7), .int 0])), ((h 3), .inl ((cs 9), 10, .inr (.inr (.inr (.inr (fun _ => none))))))] sz) t) (va_A [((h 0), .inr (11, [.ref (h 1), .ref (h 9), .int 0, .int 0, .ref (h 20), .ref (h 37), .int 0, .ref (h 38), .ref (h 42), .ref (h 43), .ref (h 44), .ref (h 45), .ref (h 46), .ref (h 47), .ref (h 48)])), ((h 1), .inr (8, [.ref (h 2), .int 0, .ref (h 3), .ref (h 4), .int 0, .ref (h 5), .int 0, .ref (h 6), .int 0, .ref (h 7), .int 0])), ((h 3), .inl ((cs 9), 10, .inr (.inr (.inr (.inr (fun _ => none))))))] sz)) (vx_X (fun _ : Unit => True) (fun E _ _ => (E = "java/lang/IndexOutOfBoundsException" ∧ zS_direction p0 p1 1 0) ∨ (E = "java/lang/IllegalStateException" ∧ zS_direction p0 p1 2 0)) (va_A [((h 0), .inr (11, [.ref (h 1), .ref (h 9), .int 0, .int 0, .ref (h 20), .ref (h 37), .int 0, .ref (h 38), .ref (h 42), .ref (h 43), .ref (h 44), .ref (h 45), .ref (h 46), .ref (h 47), .ref (h 48)])), ((h 1), .inr (8, [.ref (h 2), .int 0, .ref (h 3), .ref (h 4), .int 0, .ref (h 5), .int 0, .ref (h 6), .int 0, .ref (h 7), .int 0])), ((h 3), .inl ((cs 9), 10, .inr (.inr (.inr (.inr (fun _ => none))))))] sz)) 2 12 (va_A [((h 0), .inr (11, [.ref (h 1), .ref (h 9), .int 0, .int 0, .ref (h 20), .ref (h 37), .int 0, .ref (h 38), .ref (h 42), .ref (h 43), .ref (h 44), .ref (h 45), .ref (h 46), .ref (h 47), .ref (h 48)])), ((h 1), .inr (8, [.ref (h 2), .int 0, .ref (h 3), .ref (h 4), .int 0, .ref (h 5), .int 0, .ref (h 6), .int 0, .ref (h 7), .int 0])), ((h 3), .inl ((cs 9), 10, .inr (.inr (.inr (.inr (fun _ => none))))))] sz) := by
  refine vx_ofW (cc := cX11_direction) (maxL := 4) (ret := (some .int)) (by decide) rfl ?_
  intro p e s m args below meth c s₁ B hml hexc hv
  obtain ⟨rfl, hEx, hsz, hP, hK, hD0⟩ := hv
  have hx := B.exec
  have hb := B.bytes
  have hr := B.returns
  have hts := atoms_spec (ws := (.code yX11_direction cX11_direction 4 (some .int) :: zT)) B.pre
  have ht : ∀ w ∈ zT, w.before _ s = true := fun w h => hts w (List.mem_cons_of_mem _ h)
  have hown : s.vm.findClass RX11 = some m.cls := findClass_of_methodNamed B.named
  have hlocks := B.notSynchronized
  subst hsz
  have hD := hD0.self (sz := s.heap.size)
  generalize hAe : va_A [((h 0), .inr (11, [.ref (h 1), .ref (h 9), .int 0, .int 0, .ref (h 20), .ref (h 37), .int 0, .ref (h 38), .ref (h 42), .ref (h 43), .ref (h 44), .ref (h 45), .ref (h 46), .ref (h 47), .ref (h 48)])), ((h 1), .inr (8, [.ref (h 2), .int 0, .ref (h 3), .ref (h 4), .int 0, .ref (h 5), .int 0, .ref (h 6), .int 0, .ref (h 7), .int 0])), ((h 3), .inl ((cs 9), 10, .inr (.inr (.inr (.inr (fun _ => none))))))] s.heap.size = A at hD hEx ⊢
  have hA : ∀ q : Nat, s.heap.size ≤ q → A q := fun q h => by rw [← hAe]; exact Or.inr h
  have hS : va_S A s.heap s.heap [] := va_S.rf
  have hP : va_P D vwCl [((h 0), .inr (11, [.ref (h 1), .ref (h 9), .int 0, .int 0, .ref (h 20), .ref (h 37), .int 0, .ref (h 38), .ref (h 42), .ref (h 43), .ref (h 44), .ref (h 45), .ref (h 46), .ref (h 47), .ref (h 48)])), ((h 1), .inr (8, [.ref (h 2), .int 0, .ref (h 3), .ref (h 4), .int 0, .ref (h 5), .int 0, .ref (h 6), .int 0, .ref (h 7), .int 0])), ((h 3), .inl ((cs 9), 10, .inr (.inr (.inr (.inr (fun _ => none))))))] s.heap := hP
  have hl := lv_entry ([.ref (h 0), .int p0, .int p1]) (n := 4) (Nat.le_of_ble_eq_true rfl)
  rw [lg_entry_eq]
  generalize (lg_sl ([.ref (h 0), .int p0, .int p1]) ++ List.replicate (4 - (lg_sl ([.ref (h 0), .int p0, .int p1])).length) Slot.unset).toArray = ls at hl ⊢
  have hl : lv_has ls 4 [(0, .ref (h 0)), (1, .int p0), (2, .int p1)] := hl
  skip
  refine lv_iload_n hx hb dX11_direction_0 rfl (lv_at hl 1 rfl) ?_
  refine lv_bipush (v := 10) hx hb dX11_direction_1 (by decide) ?_
  have hPc := hP.sub (ws' := []) [] rfl
  have hDc := hD.sub (ws' := []) [] (by decide) rfl
  have hKc := hK.sub (tys' := []) [] rfl
  have hFc := va_free (wc := []) hD hS hA [] rfl
  refine vx_callv (vx_runS (As := [.int p0, .int 10]) (rest := []) ⟨hx, hb, hml, hown, ht⟩ (k_X11_checkIndex l hl0 _ D p0 10) (va_cwS 2 ht (zG_S zw_402 zw_403 zw_404 zw_405) rfl rfl rfl (by decide +kernel) ⟨Nat.le_of_ble_eq_true rfl, Nat.le_of_ble_eq_true rfl⟩) (zW_S hEx hS hFc hPc hKc hDc) rfl rfl hl.1 rfl (lv_room (Nat.le_of_ble_eq_true rfl)) dX11_direction_3 ⟨Nat.le_of_ble_eq_true rfl, Nat.le_of_ble_eq_true rfl⟩) hS (fun q _ h => hFc q h) hFc (fun q _ h => hFc q h) (fun E ce q9 uu t H1 locs1 ht0 hvm hpx hB hz1 hk1 hS hcell hv hcl => ?_) (fun u_1 t H1 locs ht0 hvm hw_1 hB hz1 hk1 hS => ?_)
  · exact vx_out (fun x hx => (hexc x hx).elim) hlocks hcell hv hcl (fun t2 h2 hv2 => ⟨(), trivial, (by obtain ⟨hE, hb9⟩ := hB; (try simp only [Int32.reduceToInt] at hb9); exact .inl ⟨hE, (show zS_direction p0 p1 1 0 from (.inl ⟨rfl, by omega⟩))⟩), hS.F h2⟩) hS.2.2 (Nat.le_of_ble_eq_true rfl) (Nat.le_of_ble_eq_true rfl)
  obtain ⟨hP1, hK1, hD1⟩ := hB
  rw [ht0] at hP1
  have hK1 := va_K.moved hvm.symm hK1
  obtain ⟨hP, hD⟩ := va_join (wr := [((h 0), .inr (11, [.ref (h 1), .ref (h 9), .int 0, .int 0, .ref (h 20), .ref (h 37), .int 0, .ref (h 38), .ref (h 42), .ref (h 43), .ref (h 44), .ref (h 45), .ref (h 46), .ref (h 47), .ref (h 48)])), ((h 1), .inr (8, [.ref (h 2), .int 0, .ref (h 3), .ref (h 4), .int 0, .ref (h 5), .int 0, .ref (h 6), .int 0, .ref (h 7), .int 0])), ((h 3), .inl ((cs 9), 10, .inr (.inr (.inr (.inr (fun _ => none))))))]) (w1 := []) hP hD [] [0, 1, 2] rfl rfl (by decide) (by decide) hk1 hFc hP1 hD1
  generalize H1 = H at hP hS ⊢
  have hP : va_P D vwCl [((h 0), .inr (11, [.ref (h 1), .ref (h 9), .int 0, .int 0, .ref (h 20), .ref (h 37), .int 0, .ref (h 38), .ref (h 42), .ref (h 43), .ref (h 44), .ref (h 45), .ref (h 46), .ref (h 47), .ref (h 48)])), ((h 1), .inr (8, [.ref (h 2), .int 0, .ref (h 3), .ref (h 4), .int 0, .ref (h 5), .int 0, .ref (h 6), .int 0, .ref (h 7), .int 0])), ((h 3), .inl ((cs 9), 10, .inr (.inr (.inr (.inr (fun _ => none))))))] H := hP
  have hD : va_D A [((h 0), .inr (11, [.ref (h 1), .ref (h 9), .int 0, .int 0, .ref (h 20), .ref (h 37), .int 0, .ref (h 38), .ref (h 42), .ref (h 43), .ref (h 44), .ref (h 45), .ref (h 46), .ref (h 47), .ref (h 48)])), ((h 1), .inr (8, [.ref (h 2), .int 0, .ref (h 3), .ref (h 4), .int 0, .ref (h 5), .int 0, .ref (h 6), .int 0, .ref (h 7), .int 0])), ((h 3), .inl ((cs 9), 10, .inr (.inr (.inr (.inr (fun _ => none))))))] := hD
  refine W.widen (k := 1) (n := 6) (Nat.le_of_ble_eq_true rfl) (Nat.le_of_ble_eq_true rfl) ?_
  simp only [Int32.reduceToInt] at hw_1
  refine lv_aload_n hx hb dX11_direction_6 rfl (lv_at hl 0 rfl) ?_
  refine lv_iload_n hx hb dX11_direction_7 rfl (lv_at hl 1 rfl) ?_
  have hPc := hP.sub (ws' := [((h 0), .inr (11, [.ref (h 1), .ref (h 9), .int 0, .int 0, .ref (h 20), .ref (h 37), .int 0, .ref (h 38), .ref (h 42), .ref (h 43), .ref (h 44), .ref (h 45), .ref (h 46), .ref (h 47), .ref (h 48)])), ((h 1), .inr (8, [.ref (h 2), .int 0, .ref (h 3), .ref (h 4), .int 0, .ref (h 5), .int 0, .ref (h 6), .int 0, .ref (h 7), .int 0])), ((h 3), .inl ((cs 9), 10, .inr (.inr (.inr (.inr (fun _ => none))))))]) [0, 1, 2] rfl
  have hDc := hD.sub (ws' := [((h 0), .inr (11, [.ref (h 1), .ref (h 9), .int 0, .int 0, .ref (h 20), .ref (h 37), .int 0, .ref (h 38), .ref (h 42), .ref (h 43), .ref (h 44), .ref (h 45), .ref (h 46), .ref (h 47), .ref (h 48)])), ((h 1), .inr (8, [.ref (h 2), .int 0, .ref (h 3), .ref (h 4), .int 0, .ref (h 5), .int 0, .ref (h 6), .int 0, .ref (h 7), .int 0])), ((h 3), .inl ((cs 9), 10, .inr (.inr (.inr (.inr (fun _ => none))))))]) [0, 1, 2] (by decide) rfl
  have hKc := hK.sub (tys' := [((cs 9), .object RX9)]) [0] rfl
  have hFc := va_free (wc := [((h 0), .inr (11, [.ref (h 1), .ref (h 9), .int 0, .int 0, .ref (h 20), .ref (h 37), .int 0, .ref (h 38), .ref (h 42), .ref (h 43), .ref (h 44), .ref (h 45), .ref (h 46), .ref (h 47), .ref (h 48)])), ((h 1), .inr (8, [.ref (h 2), .int 0, .ref (h 3), .ref (h 4), .int 0, .ref (h 5), .int 0, .ref (h 6), .int 0, .ref (h 7), .int 0])), ((h 3), .inl ((cs 9), 10, .inr (.inr (.inr (.inr (fun _ => none))))))]) hD hS hA [0, 1, 2] rfl
  refine vx_callq (vx_runV (As := [.int p0]) (rest := []) ⟨hx, hb, hml, hown, ht⟩ (k_X11_filled l hl0 _ D h cs p0 hw_1) (cwV 1 ht (zG_V zw_406 zw_407 zw_408 zw_404 zw_409) rfl rfl rfl (by decide +kernel) ⟨Nat.le_of_ble_eq_true rfl, Nat.le_of_ble_eq_true rfl⟩) (zW_V (va_recv hK hP (ci := 11) (q0 := 0) rfl rfl) hEx hS hFc hPc hKc hDc) rfl rfl hl.1 rfl (lv_room (Nat.le_of_ble_eq_true rfl)) dX11_direction_8 ⟨Nat.le_of_ble_eq_true rfl, Nat.le_of_ble_eq_true rfl⟩) hS (fun q _ h => hFc q h) hFc (fun q _ h => hFc q h) (fun E ce q9 uu t H1 locs1 ht0 hvm hpx hB hz1 hk1 hS hcell hv hcl => ?_) (fun r_2 u_2 t H1 locs ht0 hvm hw_2 hB hz1 hk1 hS => ?_)
  · exact vx_out (fun x hx => (hexc x hx).elim) hlocks hcell hv hcl (fun t2 h2 hv2 => ⟨(), trivial, (by obtain ⟨hE, hb9⟩ := hB; (try simp only [Int32.reduceToInt] at hb9); exact .inr (⟨hE, (show zS_direction p0 p1 2 0 from (.inr ⟨rfl, by omega⟩))⟩)), hS.F h2⟩) hS.2.2 (Nat.le_of_ble_eq_true rfl) (Nat.le_of_ble_eq_true rfl)
  exact hw_2.elim
set_option maxHeartbeats 4000000 in
set_option maxRecDepth 100000 in
theorem k_X11_lawAt (l : Launch) (hl0 : l.stackTraces = false) (sz : Nat) (D : va_G) (h cs : Nat → Nat) (p0 p1 : Int32) : vx_Met l yX11_lawAt (.code yX11_lawAt cX11_lawAt 4 (some .int) :: zT) ({ frames := 7, cells := 1, slots := 6, locals := 112 }) (va_Pc [.ref (h 0), .int p0, .int p1] (zW D [((h 0), .inr (11, [.ref (h 1), .ref (h 9), .int 0, .int 0, .ref (h 20), .ref (h 37), .int 0, .ref (h 38), .ref (h 42), .ref (h 43), .ref (h 44), .ref (h 45), .ref (h 46), .ref (h 47), .ref (h 48)])), ((h 1), .inr (8, [.ref (h 2), .int 0, .ref (h 3), .ref (h 4), .int 0, .ref (h 5), .int 0, .ref (h 6), .int 0, .ref (h 7), .int 0])), ((h 4), .inl ((cs 4), 100, .inr (.inr (.inr (.inr (fun _ => none))))))] [((cs 4), .object RX4)] sz)) (va_Qi (fun (r : Int32) (_ : Unit) => zS_lawAt p0 p1 0 r) (fun _ t => zE D [] [] (va_A [((h 0), .inr (11, [.ref (h 1), .ref (h 9), .int 0, .int 0, .ref (h 20), .ref (h 37), .int 0, .ref (h 38), .ref (h 42), .ref (h 43), .ref (h 44), .ref (h 45), .ref (h 46), .ref (h 47), .ref (h 48)])), ((h 1), .inr (8, [.ref (h 2), .int 0, .ref (h 3), .ref (h 4), .int 0, .ref (h 5), .int 0, .ref (h 6), .int 0, .ref (h 7), .int 0])), ((h 4), .inl ((cs 4), 100, .inr (.inr (.inr (.inr (fun _ => none))))))] sz) t) (va_A [((h 0), .inr (11, [.ref (h 1), .ref (h 9), .int 0, .int 0, .ref (h 20), .ref (h 37), .int 0, .ref (h 38), .ref (h 42), .ref (h 43), .ref (h 44), .ref (h 45), .ref (h 46), .ref (h 47), .ref (h 48)])), ((h 1), .inr (8, [.ref (h 2), .int 0, .ref (h 3), .ref (h 4), .int 0, .ref (h 5), .int 0, .ref (h 6), .int 0, .ref (h 7), .int 0])), ((h 4), .inl ((cs 4), 100, .inr (.inr (.inr (.inr (fun _ => none))))))] sz)) (vx_X (fun _ : Unit => True) (fun E _ _ => (E = "java/util/NoSuchElementException" ∧ zS_lawAt p0 p1 1 0)) (va_A [((h 0), .inr (11, [.ref (h 1), .ref (h 9), .int 0, .int 0, .ref (h 20), .ref (h 37), .int 0, .ref (h 38), .ref (h 42), .ref (h 43), .ref (h 44), .ref (h 45), .ref (h 46), .ref (h 47), .ref (h 48)])), ((h 1), .inr (8, [.ref (h 2), .int 0, .ref (h 3), .ref (h 4), .int 0, .ref (h 5), .int 0, .ref (h 6), .int 0, .ref (h 7), .int 0])), ((h 4), .inl ((cs 4), 100, .inr (.inr (.inr (.inr (fun _ => none))))))] sz)) 1 6 (va_A [((h 0), .inr (11, [.ref (h 1), .ref (h 9), .int 0, .int 0, .ref (h 20), .ref (h 37), .int 0, .ref (h 38), .ref (h 42), .ref (h 43), .ref (h 44), .ref (h 45), .ref (h 46), .ref (h 47), .ref (h 48)])), ((h 1), .inr (8, [.ref (h 2), .int 0, .ref (h 3), .ref (h 4), .int 0, .ref (h 5), .int 0, .ref (h 6), .int 0, .ref (h 7), .int 0])), ((h 4), .inl ((cs 4), 100, .inr (.inr (.inr (.inr (fun _ => none))))))] sz) := by
  refine vx_ofW (cc := cX11_lawAt) (maxL := 4) (ret := (some .int)) (by decide) rfl ?_
  intro p e s m args below meth c s₁ B hml hexc hv
  obtain ⟨rfl, hEx, hsz, hP, hK, hD0⟩ := hv
  have hx := B.exec
  have hb := B.bytes
  have hr := B.returns
  have hts := atoms_spec (ws := (.code yX11_lawAt cX11_lawAt 4 (some .int) :: zT)) B.pre
  have ht : ∀ w ∈ zT, w.before _ s = true := fun w h => hts w (List.mem_cons_of_mem _ h)
  have hown : s.vm.findClass RX11 = some m.cls := findClass_of_methodNamed B.named
  have hlocks := B.notSynchronized
  subst hsz
  have hD := hD0.self (sz := s.heap.size)
  generalize hAe : va_A [((h 0), .inr (11, [.ref (h 1), .ref (h 9), .int 0, .int 0, .ref (h 20), .ref (h 37), .int 0, .ref (h 38), .ref (h 42), .ref (h 43), .ref (h 44), .ref (h 45), .ref (h 46), .ref (h 47), .ref (h 48)])), ((h 1), .inr (8, [.ref (h 2), .int 0, .ref (h 3), .ref (h 4), .int 0, .ref (h 5), .int 0, .ref (h 6), .int 0, .ref (h 7), .int 0])), ((h 4), .inl ((cs 4), 100, .inr (.inr (.inr (.inr (fun _ => none))))))] s.heap.size = A at hD hEx ⊢
  have hA : ∀ q : Nat, s.heap.size ≤ q → A q := fun q h => by rw [← hAe]; exact Or.inr h
  have hS : va_S A s.heap s.heap [] := va_S.rf
  have hP : va_P D vwCl [((h 0), .inr (11, [.ref (h 1), .ref (h 9), .int 0, .int 0, .ref (h 20), .ref (h 37), .int 0, .ref (h 38), .ref (h 42), .ref (h 43), .ref (h 44), .ref (h 45), .ref (h 46), .ref (h 47), .ref (h 48)])), ((h 1), .inr (8, [.ref (h 2), .int 0, .ref (h 3), .ref (h 4), .int 0, .ref (h 5), .int 0, .ref (h 6), .int 0, .ref (h 7), .int 0])), ((h 4), .inl ((cs 4), 100, .inr (.inr (.inr (.inr (fun _ => none))))))] s.heap := hP
  have hl := lv_entry ([.ref (h 0), .int p0, .int p1]) (n := 4) (Nat.le_of_ble_eq_true rfl)
  rw [lg_entry_eq]
  generalize (lg_sl ([.ref (h 0), .int p0, .int p1]) ++ List.replicate (4 - (lg_sl ([.ref (h 0), .int p0, .int p1])).length) Slot.unset).toArray = ls at hl ⊢
  have hl : lv_has ls 4 [(0, .ref (h 0)), (1, .int p0), (2, .int p1)] := hl
  skip
  refine lv_aload_n hx hb dX11_lawAt_0 rfl (lv_at hl 0 rfl) ?_
  refine lv_iload_n hx hb dX11_lawAt_1 rfl (lv_at hl 1 rfl) ?_
  have hPc := hP.sub (ws' := [((h 0), .inr (11, [.ref (h 1), .ref (h 9), .int 0, .int 0, .ref (h 20), .ref (h 37), .int 0, .ref (h 38), .ref (h 42), .ref (h 43), .ref (h 44), .ref (h 45), .ref (h 46), .ref (h 47), .ref (h 48)])), ((h 1), .inr (8, [.ref (h 2), .int 0, .ref (h 3), .ref (h 4), .int 0, .ref (h 5), .int 0, .ref (h 6), .int 0, .ref (h 7), .int 0])), ((h 4), .inl ((cs 4), 100, .inr (.inr (.inr (.inr (fun _ => none))))))]) [0, 1, 2] rfl
  have hDc := hD.sub (ws' := [((h 0), .inr (11, [.ref (h 1), .ref (h 9), .int 0, .int 0, .ref (h 20), .ref (h 37), .int 0, .ref (h 38), .ref (h 42), .ref (h 43), .ref (h 44), .ref (h 45), .ref (h 46), .ref (h 47), .ref (h 48)])), ((h 1), .inr (8, [.ref (h 2), .int 0, .ref (h 3), .ref (h 4), .int 0, .ref (h 5), .int 0, .ref (h 6), .int 0, .ref (h 7), .int 0])), ((h 4), .inl ((cs 4), 100, .inr (.inr (.inr (.inr (fun _ => none))))))]) [0, 1, 2] (by decide) rfl
  have hKc := hK.sub (tys' := [((cs 4), .object RX4)]) [0] rfl
  have hFc := va_free (wc := [((h 0), .inr (11, [.ref (h 1), .ref (h 9), .int 0, .int 0, .ref (h 20), .ref (h 37), .int 0, .ref (h 38), .ref (h 42), .ref (h 43), .ref (h 44), .ref (h 45), .ref (h 46), .ref (h 47), .ref (h 48)])), ((h 1), .inr (8, [.ref (h 2), .int 0, .ref (h 3), .ref (h 4), .int 0, .ref (h 5), .int 0, .ref (h 6), .int 0, .ref (h 7), .int 0])), ((h 4), .inl ((cs 4), 100, .inr (.inr (.inr (.inr (fun _ => none))))))]) hD hS hA [0, 1, 2] rfl
  refine vx_callq (vx_runV (As := [.int p0]) (rest := []) ⟨hx, hb, hml, hown, ht⟩ (k_X11_lawThere l hl0 _ D h cs p0) (cwV 1 ht (zG_V zw_425 zw_426 zw_427 zw_404 zw_428) rfl rfl rfl (by decide +kernel) ⟨Nat.le_of_ble_eq_true rfl, Nat.le_of_ble_eq_true rfl⟩) (zW_V (va_recv hK hP (ci := 11) (q0 := 0) rfl rfl) hEx hS hFc hPc hKc hDc) rfl rfl hl.1 rfl (lv_room (Nat.le_of_ble_eq_true rfl)) dX11_lawAt_2 ⟨Nat.le_of_ble_eq_true rfl, Nat.le_of_ble_eq_true rfl⟩) hS (fun q _ h => hFc q h) hFc (fun q _ h => hFc q h) (fun E ce q9 uu t H1 locs1 ht0 hvm hpx hB hz1 hk1 hS hcell hv hcl => ?_) (fun r_1 u_1 t H1 locs ht0 hvm hw_1 hB hz1 hk1 hS => ?_)
  · exact vx_out (fun x hx => (hexc x hx).elim) hlocks hcell hv hcl (fun t2 h2 hv2 => ⟨(), trivial, (by obtain ⟨hE, hb9⟩ := hB; (try simp only [Int32.reduceToInt] at hb9); exact ⟨hE, (show zS_lawAt p0 p1 1 0 from ⟨rfl, by trivial⟩)⟩), hS.F h2⟩) hS.2.2 (Nat.le_of_ble_eq_true rfl) (Nat.le_of_ble_eq_true rfl)
  exact hw_1.elim
set_option maxHeartbeats 4000000 in
set_option maxRecDepth 100000 in
theorem k_X11_rests (l : Launch) (hl0 : l.stackTraces = false) (sz : Nat) (D : va_G) (h cs : Nat → Nat) (p0 p1 : Int32) : vx_Met l yX11_rests (.code yX11_rests cX11_rests 5 (some .boolean) :: zT) ({ frames := 7, cells := 1, slots := 6, locals := 112 }) (va_Pc [.ref (h 0), .int p0, .int p1] (zW D [((h 0), .inr (11, [.ref (h 1), .ref (h 9), .int 0, .int 0, .ref (h 20), .ref (h 37), .int 0, .ref (h 38), .ref (h 42), .ref (h 43), .ref (h 44), .ref (h 45), .ref (h 46), .ref (h 47), .ref (h 48)])), ((h 1), .inr (8, [.ref (h 2), .int 0, .ref (h 3), .ref (h 4), .int 0, .ref (h 5), .int 0, .ref (h 6), .int 0, .ref (h 7), .int 0])), ((h 4), .inl ((cs 4), 100, .inr (.inr (.inr (.inr (fun _ => none))))))] [((cs 4), .object RX4)] sz)) (va_Qi (fun (r : Int32) (_ : Unit) => zS_rests p0 p1 0 r) (fun _ t => zE D [] [] (va_A [((h 0), .inr (11, [.ref (h 1), .ref (h 9), .int 0, .int 0, .ref (h 20), .ref (h 37), .int 0, .ref (h 38), .ref (h 42), .ref (h 43), .ref (h 44), .ref (h 45), .ref (h 46), .ref (h 47), .ref (h 48)])), ((h 1), .inr (8, [.ref (h 2), .int 0, .ref (h 3), .ref (h 4), .int 0, .ref (h 5), .int 0, .ref (h 6), .int 0, .ref (h 7), .int 0])), ((h 4), .inl ((cs 4), 100, .inr (.inr (.inr (.inr (fun _ => none))))))] sz) t) (va_A [((h 0), .inr (11, [.ref (h 1), .ref (h 9), .int 0, .int 0, .ref (h 20), .ref (h 37), .int 0, .ref (h 38), .ref (h 42), .ref (h 43), .ref (h 44), .ref (h 45), .ref (h 46), .ref (h 47), .ref (h 48)])), ((h 1), .inr (8, [.ref (h 2), .int 0, .ref (h 3), .ref (h 4), .int 0, .ref (h 5), .int 0, .ref (h 6), .int 0, .ref (h 7), .int 0])), ((h 4), .inl ((cs 4), 100, .inr (.inr (.inr (.inr (fun _ => none))))))] sz)) (vx_X (fun _ : Unit => True) (fun E _ _ => (E = "java/util/NoSuchElementException" ∧ zS_rests p0 p1 1 0)) (va_A [((h 0), .inr (11, [.ref (h 1), .ref (h 9), .int 0, .int 0, .ref (h 20), .ref (h 37), .int 0, .ref (h 38), .ref (h 42), .ref (h 43), .ref (h 44), .ref (h 45), .ref (h 46), .ref (h 47), .ref (h 48)])), ((h 1), .inr (8, [.ref (h 2), .int 0, .ref (h 3), .ref (h 4), .int 0, .ref (h 5), .int 0, .ref (h 6), .int 0, .ref (h 7), .int 0])), ((h 4), .inl ((cs 4), 100, .inr (.inr (.inr (.inr (fun _ => none))))))] sz)) 1 6 (va_A [((h 0), .inr (11, [.ref (h 1), .ref (h 9), .int 0, .int 0, .ref (h 20), .ref (h 37), .int 0, .ref (h 38), .ref (h 42), .ref (h 43), .ref (h 44), .ref (h 45), .ref (h 46), .ref (h 47), .ref (h 48)])), ((h 1), .inr (8, [.ref (h 2), .int 0, .ref (h 3), .ref (h 4), .int 0, .ref (h 5), .int 0, .ref (h 6), .int 0, .ref (h 7), .int 0])), ((h 4), .inl ((cs 4), 100, .inr (.inr (.inr (.inr (fun _ => none))))))] sz) := by
  refine vx_ofW (cc := cX11_rests) (maxL := 5) (ret := (some .boolean)) (by decide) rfl ?_
  intro p e s m args below meth c s₁ B hml hexc hv
  obtain ⟨rfl, hEx, hsz, hP, hK, hD0⟩ := hv
  have hx := B.exec
  have hb := B.bytes
  have hr := B.returns
  have hts := atoms_spec (ws := (.code yX11_rests cX11_rests 5 (some .boolean) :: zT)) B.pre
  have ht : ∀ w ∈ zT, w.before _ s = true := fun w h => hts w (List.mem_cons_of_mem _ h)
  have hown : s.vm.findClass RX11 = some m.cls := findClass_of_methodNamed B.named
  have hlocks := B.notSynchronized
  subst hsz
  have hD := hD0.self (sz := s.heap.size)
  generalize hAe : va_A [((h 0), .inr (11, [.ref (h 1), .ref (h 9), .int 0, .int 0, .ref (h 20), .ref (h 37), .int 0, .ref (h 38), .ref (h 42), .ref (h 43), .ref (h 44), .ref (h 45), .ref (h 46), .ref (h 47), .ref (h 48)])), ((h 1), .inr (8, [.ref (h 2), .int 0, .ref (h 3), .ref (h 4), .int 0, .ref (h 5), .int 0, .ref (h 6), .int 0, .ref (h 7), .int 0])), ((h 4), .inl ((cs 4), 100, .inr (.inr (.inr (.inr (fun _ => none))))))] s.heap.size = A at hD hEx ⊢
  have hA : ∀ q : Nat, s.heap.size ≤ q → A q := fun q h => by rw [← hAe]; exact Or.inr h
  have hS : va_S A s.heap s.heap [] := va_S.rf
  have hP : va_P D vwCl [((h 0), .inr (11, [.ref (h 1), .ref (h 9), .int 0, .int 0, .ref (h 20), .ref (h 37), .int 0, .ref (h 38), .ref (h 42), .ref (h 43), .ref (h 44), .ref (h 45), .ref (h 46), .ref (h 47), .ref (h 48)])), ((h 1), .inr (8, [.ref (h 2), .int 0, .ref (h 3), .ref (h 4), .int 0, .ref (h 5), .int 0, .ref (h 6), .int 0, .ref (h 7), .int 0])), ((h 4), .inl ((cs 4), 100, .inr (.inr (.inr (.inr (fun _ => none))))))] s.heap := hP
  have hl := lv_entry ([.ref (h 0), .int p0, .int p1]) (n := 5) (Nat.le_of_ble_eq_true rfl)
  rw [lg_entry_eq]
  generalize (lg_sl ([.ref (h 0), .int p0, .int p1]) ++ List.replicate (5 - (lg_sl ([.ref (h 0), .int p0, .int p1])).length) Slot.unset).toArray = ls at hl ⊢
  have hl : lv_has ls 5 [(0, .ref (h 0)), (1, .int p0), (2, .int p1)] := hl
  skip
  refine lv_aload_n hx hb dX11_rests_0 rfl (lv_at hl 0 rfl) ?_
  refine lv_iload_n hx hb dX11_rests_1 rfl (lv_at hl 1 rfl) ?_
  have hPc := hP.sub (ws' := [((h 0), .inr (11, [.ref (h 1), .ref (h 9), .int 0, .int 0, .ref (h 20), .ref (h 37), .int 0, .ref (h 38), .ref (h 42), .ref (h 43), .ref (h 44), .ref (h 45), .ref (h 46), .ref (h 47), .ref (h 48)])), ((h 1), .inr (8, [.ref (h 2), .int 0, .ref (h 3), .ref (h 4), .int 0, .ref (h 5), .int 0, .ref (h 6), .int 0, .ref (h 7), .int 0])), ((h 4), .inl ((cs 4), 100, .inr (.inr (.inr (.inr (fun _ => none))))))]) [0, 1, 2] rfl
  have hDc := hD.sub (ws' := [((h 0), .inr (11, [.ref (h 1), .ref (h 9), .int 0, .int 0, .ref (h 20), .ref (h 37), .int 0, .ref (h 38), .ref (h 42), .ref (h 43), .ref (h 44), .ref (h 45), .ref (h 46), .ref (h 47), .ref (h 48)])), ((h 1), .inr (8, [.ref (h 2), .int 0, .ref (h 3), .ref (h 4), .int 0, .ref (h 5), .int 0, .ref (h 6), .int 0, .ref (h 7), .int 0])), ((h 4), .inl ((cs 4), 100, .inr (.inr (.inr (.inr (fun _ => none))))))]) [0, 1, 2] (by decide) rfl
  have hKc := hK.sub (tys' := [((cs 4), .object RX4)]) [0] rfl
  have hFc := va_free (wc := [((h 0), .inr (11, [.ref (h 1), .ref (h 9), .int 0, .int 0, .ref (h 20), .ref (h 37), .int 0, .ref (h 38), .ref (h 42), .ref (h 43), .ref (h 44), .ref (h 45), .ref (h 46), .ref (h 47), .ref (h 48)])), ((h 1), .inr (8, [.ref (h 2), .int 0, .ref (h 3), .ref (h 4), .int 0, .ref (h 5), .int 0, .ref (h 6), .int 0, .ref (h 7), .int 0])), ((h 4), .inl ((cs 4), 100, .inr (.inr (.inr (.inr (fun _ => none))))))]) hD hS hA [0, 1, 2] rfl
  refine vx_callq (vx_runV (As := [.int p0]) (rest := []) ⟨hx, hb, hml, hown, ht⟩ (k_X11_lawThere l hl0 _ D h cs p0) (cwV 1 ht (zG_V zw_425 zw_426 zw_427 zw_404 zw_428) rfl rfl rfl (by decide +kernel) ⟨Nat.le_of_ble_eq_true rfl, Nat.le_of_ble_eq_true rfl⟩) (zW_V (va_recv hK hP (ci := 11) (q0 := 0) rfl rfl) hEx hS hFc hPc hKc hDc) rfl rfl hl.1 rfl (lv_room (Nat.le_of_ble_eq_true rfl)) dX11_rests_2 ⟨Nat.le_of_ble_eq_true rfl, Nat.le_of_ble_eq_true rfl⟩) hS (fun q _ h => hFc q h) hFc (fun q _ h => hFc q h) (fun E ce q9 uu t H1 locs1 ht0 hvm hpx hB hz1 hk1 hS hcell hv hcl => ?_) (fun r_1 u_1 t H1 locs ht0 hvm hw_1 hB hz1 hk1 hS => ?_)
  · exact vx_out (fun x hx => (hexc x hx).elim) hlocks hcell hv hcl (fun t2 h2 hv2 => ⟨(), trivial, (by obtain ⟨hE, hb9⟩ := hB; (try simp only [Int32.reduceToInt] at hb9); exact ⟨hE, (show zS_rests p0 p1 1 0 from ⟨rfl, by trivial⟩)⟩), hS.F h2⟩) hS.2.2 (Nat.le_of_ble_eq_true rfl) (Nat.le_of_ble_eq_true rfl)
  exact hw_1.elim
set_option maxHeartbeats 4000000 in
set_option maxRecDepth 100000 in
theorem k_X11_fails (l : Launch) (hl0 : l.stackTraces = false) (sz : Nat) (D : va_G) (h cs : Nat → Nat) (p0 p1 p2 p3 : Int32) : vx_Met l yX11_fails (.code yX11_fails cX11_fails 6 (some .int) :: zT) ({ frames := 7, cells := 4, slots := 27, locals := 112 }) (va_Pc [.ref (h 0), .int p0, .int p1, .int p2, .int p3] (zW D [((h 0), .inr (11, [.ref (h 1), .ref (h 9), .int 0, .int 0, .ref (h 20), .ref (h 37), .int 0, .ref (h 38), .ref (h 42), .ref (h 43), .ref (h 44), .ref (h 45), .ref (h 46), .ref (h 47), .ref (h 48)])), ((h 1), .inr (8, [.ref (h 2), .int 0, .ref (h 3), .ref (h 4), .int 0, .ref (h 5), .int 0, .ref (h 6), .int 0, .ref (h 7), .int 0])), ((h 3), .inl ((cs 9), 10, .inr (.inr (.inr (.inr (fun _ => none))))))] [((cs 9), .object RX9)] sz)) (va_Qi (fun (r : Int32) (_ : Unit) => zS_fails p0 p1 p2 p3 0 r) (fun _ t => zE D [] [] (va_A [((h 0), .inr (11, [.ref (h 1), .ref (h 9), .int 0, .int 0, .ref (h 20), .ref (h 37), .int 0, .ref (h 38), .ref (h 42), .ref (h 43), .ref (h 44), .ref (h 45), .ref (h 46), .ref (h 47), .ref (h 48)])), ((h 1), .inr (8, [.ref (h 2), .int 0, .ref (h 3), .ref (h 4), .int 0, .ref (h 5), .int 0, .ref (h 6), .int 0, .ref (h 7), .int 0])), ((h 3), .inl ((cs 9), 10, .inr (.inr (.inr (.inr (fun _ => none))))))] sz) t) (va_A [((h 0), .inr (11, [.ref (h 1), .ref (h 9), .int 0, .int 0, .ref (h 20), .ref (h 37), .int 0, .ref (h 38), .ref (h 42), .ref (h 43), .ref (h 44), .ref (h 45), .ref (h 46), .ref (h 47), .ref (h 48)])), ((h 1), .inr (8, [.ref (h 2), .int 0, .ref (h 3), .ref (h 4), .int 0, .ref (h 5), .int 0, .ref (h 6), .int 0, .ref (h 7), .int 0])), ((h 3), .inl ((cs 9), 10, .inr (.inr (.inr (.inr (fun _ => none))))))] sz)) (vx_X (fun _ : Unit => True) (fun E _ _ => (E = "java/lang/IndexOutOfBoundsException" ∧ zS_fails p0 p1 p2 p3 1 0) ∨ (E = "java/lang/IllegalStateException" ∧ zS_fails p0 p1 p2 p3 2 0)) (va_A [((h 0), .inr (11, [.ref (h 1), .ref (h 9), .int 0, .int 0, .ref (h 20), .ref (h 37), .int 0, .ref (h 38), .ref (h 42), .ref (h 43), .ref (h 44), .ref (h 45), .ref (h 46), .ref (h 47), .ref (h 48)])), ((h 1), .inr (8, [.ref (h 2), .int 0, .ref (h 3), .ref (h 4), .int 0, .ref (h 5), .int 0, .ref (h 6), .int 0, .ref (h 7), .int 0])), ((h 3), .inl ((cs 9), 10, .inr (.inr (.inr (.inr (fun _ => none))))))] sz)) 4 27 (va_A [((h 0), .inr (11, [.ref (h 1), .ref (h 9), .int 0, .int 0, .ref (h 20), .ref (h 37), .int 0, .ref (h 38), .ref (h 42), .ref (h 43), .ref (h 44), .ref (h 45), .ref (h 46), .ref (h 47), .ref (h 48)])), ((h 1), .inr (8, [.ref (h 2), .int 0, .ref (h 3), .ref (h 4), .int 0, .ref (h 5), .int 0, .ref (h 6), .int 0, .ref (h 7), .int 0])), ((h 3), .inl ((cs 9), 10, .inr (.inr (.inr (.inr (fun _ => none))))))] sz) := by
  refine vx_ofW (cc := cX11_fails) (maxL := 6) (ret := (some .int)) (by decide) rfl ?_
  intro p e s m args below meth c s₁ B hml hexc hv
  obtain ⟨rfl, hEx, hsz, hP, hK, hD0⟩ := hv
  have hx := B.exec
  have hb := B.bytes
  have hr := B.returns
  have hts := atoms_spec (ws := (.code yX11_fails cX11_fails 6 (some .int) :: zT)) B.pre
  have ht : ∀ w ∈ zT, w.before _ s = true := fun w h => hts w (List.mem_cons_of_mem _ h)
  have hown : s.vm.findClass RX11 = some m.cls := findClass_of_methodNamed B.named
  have hlocks := B.notSynchronized
  subst hsz
  have hD := hD0.self (sz := s.heap.size)
  generalize hAe : va_A [((h 0), .inr (11, [.ref (h 1), .ref (h 9), .int 0, .int 0, .ref (h 20), .ref (h 37), .int 0, .ref (h 38), .ref (h 42), .ref (h 43), .ref (h 44), .ref (h 45), .ref (h 46), .ref (h 47), .ref (h 48)])), ((h 1), .inr (8, [.ref (h 2), .int 0, .ref (h 3), .ref (h 4), .int 0, .ref (h 5), .int 0, .ref (h 6), .int 0, .ref (h 7), .int 0])), ((h 3), .inl ((cs 9), 10, .inr (.inr (.inr (.inr (fun _ => none))))))] s.heap.size = A at hD hEx ⊢
  have hA : ∀ q : Nat, s.heap.size ≤ q → A q := fun q h => by rw [← hAe]; exact Or.inr h
  have hS : va_S A s.heap s.heap [] := va_S.rf
  have hP : va_P D vwCl [((h 0), .inr (11, [.ref (h 1), .ref (h 9), .int 0, .int 0, .ref (h 20), .ref (h 37), .int 0, .ref (h 38), .ref (h 42), .ref (h 43), .ref (h 44), .ref (h 45), .ref (h 46), .ref (h 47), .ref (h 48)])), ((h 1), .inr (8, [.ref (h 2), .int 0, .ref (h 3), .ref (h 4), .int 0, .ref (h 5), .int 0, .ref (h 6), .int 0, .ref (h 7), .int 0])), ((h 3), .inl ((cs 9), 10, .inr (.inr (.inr (.inr (fun _ => none))))))] s.heap := hP
  have hl := lv_entry ([.ref (h 0), .int p0, .int p1, .int p2, .int p3]) (n := 6) (Nat.le_of_ble_eq_true rfl)
  rw [lg_entry_eq]
  generalize (lg_sl ([.ref (h 0), .int p0, .int p1, .int p2, .int p3]) ++ List.replicate (6 - (lg_sl ([.ref (h 0), .int p0, .int p1, .int p2, .int p3])).length) Slot.unset).toArray = ls at hl ⊢
  have hl : lv_has ls 6 [(0, .ref (h 0)), (1, .int p0), (2, .int p1), (3, .int p2), (4, .int p3)] := hl
  skip
  refine lv_iload_n hx hb dX11_fails_0 rfl (lv_at hl 1 rfl) ?_
  refine lv_bipush (v := 10) hx hb dX11_fails_1 (by decide) ?_
  have hPc := hP.sub (ws' := []) [] rfl
  have hDc := hD.sub (ws' := []) [] (by decide) rfl
  have hKc := hK.sub (tys' := []) [] rfl
  have hFc := va_free (wc := []) hD hS hA [] rfl
  refine vx_callv (vx_runS (As := [.int p0, .int 10]) (rest := []) ⟨hx, hb, hml, hown, ht⟩ (k_X11_checkIndex l hl0 _ D p0 10) (va_cwS 2 ht (zG_S zw_402 zw_403 zw_404 zw_405) rfl rfl rfl (by decide +kernel) ⟨Nat.le_of_ble_eq_true rfl, Nat.le_of_ble_eq_true rfl⟩) (zW_S hEx hS hFc hPc hKc hDc) rfl rfl hl.1 rfl (lv_room (Nat.le_of_ble_eq_true rfl)) dX11_fails_3 ⟨Nat.le_of_ble_eq_true rfl, Nat.le_of_ble_eq_true rfl⟩) hS (fun q _ h => hFc q h) hFc (fun q _ h => hFc q h) (fun E ce q9 uu t H1 locs1 ht0 hvm hpx hB hz1 hk1 hS hcell hv hcl => ?_) (fun u_1 t H1 locs ht0 hvm hw_1 hB hz1 hk1 hS => ?_)
  · exact vx_out (fun x hx => (hexc x hx).elim) hlocks hcell hv hcl (fun t2 h2 hv2 => ⟨(), trivial, (by obtain ⟨hE, hb9⟩ := hB; (try simp only [Int32.reduceToInt] at hb9); exact .inl ⟨hE, (show zS_fails p0 p1 p2 p3 1 0 from (.inl ⟨rfl, by omega⟩))⟩), hS.F h2⟩) hS.2.2 (Nat.le_of_ble_eq_true rfl) (Nat.le_of_ble_eq_true rfl)
  obtain ⟨hP1, hK1, hD1⟩ := hB
  rw [ht0] at hP1
  have hK1 := va_K.moved hvm.symm hK1
  obtain ⟨hP, hD⟩ := va_join (wr := [((h 0), .inr (11, [.ref (h 1), .ref (h 9), .int 0, .int 0, .ref (h 20), .ref (h 37), .int 0, .ref (h 38), .ref (h 42), .ref (h 43), .ref (h 44), .ref (h 45), .ref (h 46), .ref (h 47), .ref (h 48)])), ((h 1), .inr (8, [.ref (h 2), .int 0, .ref (h 3), .ref (h 4), .int 0, .ref (h 5), .int 0, .ref (h 6), .int 0, .ref (h 7), .int 0])), ((h 3), .inl ((cs 9), 10, .inr (.inr (.inr (.inr (fun _ => none))))))]) (w1 := []) hP hD [] [0, 1, 2] rfl rfl (by decide) (by decide) hk1 hFc hP1 hD1
  generalize H1 = H at hP hS ⊢
  have hP : va_P D vwCl [((h 0), .inr (11, [.ref (h 1), .ref (h 9), .int 0, .int 0, .ref (h 20), .ref (h 37), .int 0, .ref (h 38), .ref (h 42), .ref (h 43), .ref (h 44), .ref (h 45), .ref (h 46), .ref (h 47), .ref (h 48)])), ((h 1), .inr (8, [.ref (h 2), .int 0, .ref (h 3), .ref (h 4), .int 0, .ref (h 5), .int 0, .ref (h 6), .int 0, .ref (h 7), .int 0])), ((h 3), .inl ((cs 9), 10, .inr (.inr (.inr (.inr (fun _ => none))))))] H := hP
  have hD : va_D A [((h 0), .inr (11, [.ref (h 1), .ref (h 9), .int 0, .int 0, .ref (h 20), .ref (h 37), .int 0, .ref (h 38), .ref (h 42), .ref (h 43), .ref (h 44), .ref (h 45), .ref (h 46), .ref (h 47), .ref (h 48)])), ((h 1), .inr (8, [.ref (h 2), .int 0, .ref (h 3), .ref (h 4), .int 0, .ref (h 5), .int 0, .ref (h 6), .int 0, .ref (h 7), .int 0])), ((h 3), .inl ((cs 9), 10, .inr (.inr (.inr (.inr (fun _ => none))))))] := hD
  refine W.widen (k := 1) (n := 6) (Nat.le_of_ble_eq_true rfl) (Nat.le_of_ble_eq_true rfl) ?_
  simp only [Int32.reduceToInt] at hw_1
  refine lv_iload_n hx hb dX11_fails_6 rfl (lv_at hl 3 rfl) ?_
  refine lv_bipush (v := 10) hx hb dX11_fails_7 (by decide) ?_
  have hPc := hP.sub (ws' := []) [] rfl
  have hDc := hD.sub (ws' := []) [] (by decide) rfl
  have hKc := hK.sub (tys' := []) [] rfl
  have hFc := va_free (wc := []) hD hS hA [] rfl
  refine vx_callv (vx_runS (As := [.int p2, .int 10]) (rest := []) ⟨hx, hb, hml, hown, ht⟩ (k_X11_checkIndex l hl0 _ D p2 10) (va_cwS 2 ht (zG_S zw_402 zw_403 zw_404 zw_405) rfl rfl rfl (by decide +kernel) ⟨Nat.le_of_ble_eq_true rfl, Nat.le_of_ble_eq_true rfl⟩) (zW_S hEx hS hFc hPc hKc hDc) rfl rfl hl.1 rfl (lv_room (Nat.le_of_ble_eq_true rfl)) dX11_fails_9 ⟨Nat.le_of_ble_eq_true rfl, Nat.le_of_ble_eq_true rfl⟩) hS (fun q _ h => hFc q h) hFc (fun q _ h => hFc q h) (fun E ce q9 uu t H1 locs1 ht0 hvm hpx hB hz1 hk1 hS hcell hv hcl => ?_) (fun u_2 t H1 locs ht0 hvm hw_2 hB hz1 hk1 hS => ?_)
  · exact vx_out (fun x hx => (hexc x hx).elim) hlocks hcell hv hcl (fun t2 h2 hv2 => ⟨(), trivial, (by obtain ⟨hE, hb9⟩ := hB; (try simp only [Int32.reduceToInt] at hb9); exact .inl ⟨hE, (show zS_fails p0 p1 p2 p3 1 0 from (.inl ⟨rfl, by omega⟩))⟩), hS.F h2⟩) hS.2.2 (Nat.le_of_ble_eq_true rfl) (Nat.le_of_ble_eq_true rfl)
  obtain ⟨hP1, hK1, hD1⟩ := hB
  rw [ht0] at hP1
  have hK1 := va_K.moved hvm.symm hK1
  obtain ⟨hP, hD⟩ := va_join (wr := [((h 0), .inr (11, [.ref (h 1), .ref (h 9), .int 0, .int 0, .ref (h 20), .ref (h 37), .int 0, .ref (h 38), .ref (h 42), .ref (h 43), .ref (h 44), .ref (h 45), .ref (h 46), .ref (h 47), .ref (h 48)])), ((h 1), .inr (8, [.ref (h 2), .int 0, .ref (h 3), .ref (h 4), .int 0, .ref (h 5), .int 0, .ref (h 6), .int 0, .ref (h 7), .int 0])), ((h 3), .inl ((cs 9), 10, .inr (.inr (.inr (.inr (fun _ => none))))))]) (w1 := []) hP hD [] [0, 1, 2] rfl rfl (by decide) (by decide) hk1 hFc hP1 hD1
  generalize H1 = H at hP hS ⊢
  have hP : va_P D vwCl [((h 0), .inr (11, [.ref (h 1), .ref (h 9), .int 0, .int 0, .ref (h 20), .ref (h 37), .int 0, .ref (h 38), .ref (h 42), .ref (h 43), .ref (h 44), .ref (h 45), .ref (h 46), .ref (h 47), .ref (h 48)])), ((h 1), .inr (8, [.ref (h 2), .int 0, .ref (h 3), .ref (h 4), .int 0, .ref (h 5), .int 0, .ref (h 6), .int 0, .ref (h 7), .int 0])), ((h 3), .inl ((cs 9), 10, .inr (.inr (.inr (.inr (fun _ => none))))))] H := hP
  have hD : va_D A [((h 0), .inr (11, [.ref (h 1), .ref (h 9), .int 0, .int 0, .ref (h 20), .ref (h 37), .int 0, .ref (h 38), .ref (h 42), .ref (h 43), .ref (h 44), .ref (h 45), .ref (h 46), .ref (h 47), .ref (h 48)])), ((h 1), .inr (8, [.ref (h 2), .int 0, .ref (h 3), .ref (h 4), .int 0, .ref (h 5), .int 0, .ref (h 6), .int 0, .ref (h 7), .int 0])), ((h 3), .inl ((cs 9), 10, .inr (.inr (.inr (.inr (fun _ => none))))))] := hD
  refine W.widen (k := 2) (n := 12) (Nat.le_of_ble_eq_true rfl) (Nat.le_of_ble_eq_true rfl) ?_
  simp only [Int32.reduceToInt] at hw_2
  refine va_new (ci := 4) (fs := [.int 0, .null, .int 0, .null, .int 0, .int 0, .int 0, .null, .null]) (C := RX4) (T := TX4) (N := 9) hx hb ht zinX4 tyX4 tyX4_ok hown (ht _ zw_422) (ht _ zw_423) (ht _ zw_424) hK hP hD hS hA rfl (fun j hj => by rcases (show j = 0 ∨ j = 1 ∨ j = 2 ∨ j = 3 ∨ j = 4 ∨ j = 5 ∨ j = 6 ∨ j = 7 ∨ j = 8 by omega) with rfl | rfl | rfl | rfl | rfl | rfl | rfl | rfl | rfl <;> rfl) (Nat.le_of_ble_eq_true rfl) (Nat.le_of_ble_eq_true rfl) dX11_fails_12 (fun q_3 H hP hD hS => ?_)
  have hP : va_P D vwCl [((h 0), .inr (11, [.ref (h 1), .ref (h 9), .int 0, .int 0, .ref (h 20), .ref (h 37), .int 0, .ref (h 38), .ref (h 42), .ref (h 43), .ref (h 44), .ref (h 45), .ref (h 46), .ref (h 47), .ref (h 48)])), ((h 1), .inr (8, [.ref (h 2), .int 0, .ref (h 3), .ref (h 4), .int 0, .ref (h 5), .int 0, .ref (h 6), .int 0, .ref (h 7), .int 0])), ((h 3), .inl ((cs 9), 10, .inr (.inr (.inr (.inr (fun _ => none)))))), (q_3, .inr (4, [.int 0, .null, .int 0, .null, .int 0, .int 0, .int 0, .null, .null]))] H := hP
  have hD : va_D A [((h 0), .inr (11, [.ref (h 1), .ref (h 9), .int 0, .int 0, .ref (h 20), .ref (h 37), .int 0, .ref (h 38), .ref (h 42), .ref (h 43), .ref (h 44), .ref (h 45), .ref (h 46), .ref (h 47), .ref (h 48)])), ((h 1), .inr (8, [.ref (h 2), .int 0, .ref (h 3), .ref (h 4), .int 0, .ref (h 5), .int 0, .ref (h 6), .int 0, .ref (h 7), .int 0])), ((h 3), .inl ((cs 9), 10, .inr (.inr (.inr (.inr (fun _ => none)))))), (q_3, .inr (4, [.int 0, .null, .int 0, .null, .int 0, .int 0, .int 0, .null, .null]))] := hD
  refine W.widen (k := 3) (n := 21) (Nat.le_of_ble_eq_true rfl) (Nat.le_of_ble_eq_true rfl) ?_
  refine lv_dup hx hb dX11_fails_15 rfl ?_
  refine lv_iconst (v := (-1)) hx hb dX11_fails_16 (by decide) ?_
  refine lv_aload_n hx hb dX11_fails_17 rfl (lv_at hl 0 rfl) ?_
  refine lv_iload_n hx hb dX11_fails_18 rfl (lv_at hl 1 rfl) ?_
  have hPc := hP.sub (ws' := [((h 0), .inr (11, [.ref (h 1), .ref (h 9), .int 0, .int 0, .ref (h 20), .ref (h 37), .int 0, .ref (h 38), .ref (h 42), .ref (h 43), .ref (h 44), .ref (h 45), .ref (h 46), .ref (h 47), .ref (h 48)])), ((h 1), .inr (8, [.ref (h 2), .int 0, .ref (h 3), .ref (h 4), .int 0, .ref (h 5), .int 0, .ref (h 6), .int 0, .ref (h 7), .int 0])), ((h 3), .inl ((cs 9), 10, .inr (.inr (.inr (.inr (fun _ => none))))))]) [0, 1, 2] rfl
  have hDc := hD.sub (ws' := [((h 0), .inr (11, [.ref (h 1), .ref (h 9), .int 0, .int 0, .ref (h 20), .ref (h 37), .int 0, .ref (h 38), .ref (h 42), .ref (h 43), .ref (h 44), .ref (h 45), .ref (h 46), .ref (h 47), .ref (h 48)])), ((h 1), .inr (8, [.ref (h 2), .int 0, .ref (h 3), .ref (h 4), .int 0, .ref (h 5), .int 0, .ref (h 6), .int 0, .ref (h 7), .int 0])), ((h 3), .inl ((cs 9), 10, .inr (.inr (.inr (.inr (fun _ => none))))))]) [0, 1, 2] (by decide) rfl
  have hKc := hK.sub (tys' := [((cs 9), .object RX9)]) [0] rfl
  have hFc := va_free (wc := [((h 0), .inr (11, [.ref (h 1), .ref (h 9), .int 0, .int 0, .ref (h 20), .ref (h 37), .int 0, .ref (h 38), .ref (h 42), .ref (h 43), .ref (h 44), .ref (h 45), .ref (h 46), .ref (h 47), .ref (h 48)])), ((h 1), .inr (8, [.ref (h 2), .int 0, .ref (h 3), .ref (h 4), .int 0, .ref (h 5), .int 0, .ref (h 6), .int 0, .ref (h 7), .int 0])), ((h 3), .inl ((cs 9), 10, .inr (.inr (.inr (.inr (fun _ => none))))))]) hD hS hA [0, 1, 2] rfl
  refine vx_callq (vx_runV (As := [.int p0]) (rest := [.int (-1), .ref q_3, .ref q_3]) ⟨hx, hb, hml, hown, ht⟩ (k_X11_filled l hl0 _ D h cs p0 hw_1) (cwV 1 ht (zG_V zw_406 zw_407 zw_408 zw_404 zw_409) rfl rfl rfl (by decide +kernel) ⟨Nat.le_of_ble_eq_true rfl, Nat.le_of_ble_eq_true rfl⟩) (zW_V (va_recv hK hP (ci := 11) (q0 := 0) rfl rfl) hEx hS hFc hPc hKc hDc) rfl rfl hl.1 rfl (lv_room (Nat.le_of_ble_eq_true rfl)) dX11_fails_19 ⟨Nat.le_of_ble_eq_true rfl, Nat.le_of_ble_eq_true rfl⟩) hS (fun q _ h => hFc q h) hFc (fun q _ h => hFc q h) (fun E ce q9 uu t H1 locs1 ht0 hvm hpx hB hz1 hk1 hS hcell hv hcl => ?_) (fun r_4 u_4 t H1 locs ht0 hvm hw_4 hB hz1 hk1 hS => ?_)
  · exact vx_out (fun x hx => (hexc x hx).elim) hlocks hcell hv hcl (fun t2 h2 hv2 => ⟨(), trivial, (by obtain ⟨hE, hb9⟩ := hB; (try simp only [Int32.reduceToInt] at hb9); exact .inr (⟨hE, (show zS_fails p0 p1 p2 p3 2 0 from (.inr ⟨rfl, by omega⟩))⟩)), hS.F h2⟩) hS.2.2 (Nat.le_of_ble_eq_true rfl) (Nat.le_of_ble_eq_true rfl)
  exact hw_4.elim
set_option maxHeartbeats 4000000 in
set_option maxRecDepth 100000 in
theorem k_X11_value (l : Launch) (hl0 : l.stackTraces = false) (sz : Nat) (D : va_G) (h cs : Nat → Nat) (p0 p1 p2 : Int32) : vx_Met l yX11_value (.code yX11_value cX11_value 5 (some .int) :: zT) ({ frames := 7, cells := 2, slots := 12, locals := 112 }) (va_Pc [.ref (h 0), .int p0, .int p1, .int p2] (zW D [((h 0), .inr (11, [.ref (h 1), .ref (h 9), .int 0, .int 0, .ref (h 20), .ref (h 37), .int 0, .ref (h 38), .ref (h 42), .ref (h 43), .ref (h 44), .ref (h 45), .ref (h 46), .ref (h 47), .ref (h 48)])), ((h 1), .inr (8, [.ref (h 2), .int 0, .ref (h 3), .ref (h 4), .int 0, .ref (h 5), .int 0, .ref (h 6), .int 0, .ref (h 7), .int 0])), ((h 3), .inl ((cs 9), 10, .inr (.inr (.inr (.inr (fun _ => none))))))] [((cs 9), .object RX9)] sz)) (va_Qi (fun (r : Int32) (_ : Unit) => zS_value p0 p1 p2 0 r) (fun _ t => zE D [] [] (va_A [((h 0), .inr (11, [.ref (h 1), .ref (h 9), .int 0, .int 0, .ref (h 20), .ref (h 37), .int 0, .ref (h 38), .ref (h 42), .ref (h 43), .ref (h 44), .ref (h 45), .ref (h 46), .ref (h 47), .ref (h 48)])), ((h 1), .inr (8, [.ref (h 2), .int 0, .ref (h 3), .ref (h 4), .int 0, .ref (h 5), .int 0, .ref (h 6), .int 0, .ref (h 7), .int 0])), ((h 3), .inl ((cs 9), 10, .inr (.inr (.inr (.inr (fun _ => none))))))] sz) t) (va_A [((h 0), .inr (11, [.ref (h 1), .ref (h 9), .int 0, .int 0, .ref (h 20), .ref (h 37), .int 0, .ref (h 38), .ref (h 42), .ref (h 43), .ref (h 44), .ref (h 45), .ref (h 46), .ref (h 47), .ref (h 48)])), ((h 1), .inr (8, [.ref (h 2), .int 0, .ref (h 3), .ref (h 4), .int 0, .ref (h 5), .int 0, .ref (h 6), .int 0, .ref (h 7), .int 0])), ((h 3), .inl ((cs 9), 10, .inr (.inr (.inr (.inr (fun _ => none))))))] sz)) (vx_X (fun _ : Unit => True) (fun E _ _ => (E = "java/lang/IndexOutOfBoundsException" ∧ zS_value p0 p1 p2 1 0) ∨ (E = "java/lang/IllegalStateException" ∧ zS_value p0 p1 p2 2 0)) (va_A [((h 0), .inr (11, [.ref (h 1), .ref (h 9), .int 0, .int 0, .ref (h 20), .ref (h 37), .int 0, .ref (h 38), .ref (h 42), .ref (h 43), .ref (h 44), .ref (h 45), .ref (h 46), .ref (h 47), .ref (h 48)])), ((h 1), .inr (8, [.ref (h 2), .int 0, .ref (h 3), .ref (h 4), .int 0, .ref (h 5), .int 0, .ref (h 6), .int 0, .ref (h 7), .int 0])), ((h 3), .inl ((cs 9), 10, .inr (.inr (.inr (.inr (fun _ => none))))))] sz)) 2 12 (va_A [((h 0), .inr (11, [.ref (h 1), .ref (h 9), .int 0, .int 0, .ref (h 20), .ref (h 37), .int 0, .ref (h 38), .ref (h 42), .ref (h 43), .ref (h 44), .ref (h 45), .ref (h 46), .ref (h 47), .ref (h 48)])), ((h 1), .inr (8, [.ref (h 2), .int 0, .ref (h 3), .ref (h 4), .int 0, .ref (h 5), .int 0, .ref (h 6), .int 0, .ref (h 7), .int 0])), ((h 3), .inl ((cs 9), 10, .inr (.inr (.inr (.inr (fun _ => none))))))] sz) := by
  refine vx_ofW (cc := cX11_value) (maxL := 5) (ret := (some .int)) (by decide) rfl ?_
  intro p e s m args below meth c s₁ B hml hexc hv
  obtain ⟨rfl, hEx, hsz, hP, hK, hD0⟩ := hv
  have hx := B.exec
  have hb := B.bytes
  have hr := B.returns
  have hts := atoms_spec (ws := (.code yX11_value cX11_value 5 (some .int) :: zT)) B.pre
  have ht : ∀ w ∈ zT, w.before _ s = true := fun w h => hts w (List.mem_cons_of_mem _ h)
  have hown : s.vm.findClass RX11 = some m.cls := findClass_of_methodNamed B.named
  have hlocks := B.notSynchronized
  subst hsz
  have hD := hD0.self (sz := s.heap.size)
  generalize hAe : va_A [((h 0), .inr (11, [.ref (h 1), .ref (h 9), .int 0, .int 0, .ref (h 20), .ref (h 37), .int 0, .ref (h 38), .ref (h 42), .ref (h 43), .ref (h 44), .ref (h 45), .ref (h 46), .ref (h 47), .ref (h 48)])), ((h 1), .inr (8, [.ref (h 2), .int 0, .ref (h 3), .ref (h 4), .int 0, .ref (h 5), .int 0, .ref (h 6), .int 0, .ref (h 7), .int 0])), ((h 3), .inl ((cs 9), 10, .inr (.inr (.inr (.inr (fun _ => none))))))] s.heap.size = A at hD hEx ⊢
  have hA : ∀ q : Nat, s.heap.size ≤ q → A q := fun q h => by rw [← hAe]; exact Or.inr h
  have hS : va_S A s.heap s.heap [] := va_S.rf
  have hP : va_P D vwCl [((h 0), .inr (11, [.ref (h 1), .ref (h 9), .int 0, .int 0, .ref (h 20), .ref (h 37), .int 0, .ref (h 38), .ref (h 42), .ref (h 43), .ref (h 44), .ref (h 45), .ref (h 46), .ref (h 47), .ref (h 48)])), ((h 1), .inr (8, [.ref (h 2), .int 0, .ref (h 3), .ref (h 4), .int 0, .ref (h 5), .int 0, .ref (h 6), .int 0, .ref (h 7), .int 0])), ((h 3), .inl ((cs 9), 10, .inr (.inr (.inr (.inr (fun _ => none))))))] s.heap := hP
  have hl := lv_entry ([.ref (h 0), .int p0, .int p1, .int p2]) (n := 5) (Nat.le_of_ble_eq_true rfl)
  rw [lg_entry_eq]
  generalize (lg_sl ([.ref (h 0), .int p0, .int p1, .int p2]) ++ List.replicate (5 - (lg_sl ([.ref (h 0), .int p0, .int p1, .int p2])).length) Slot.unset).toArray = ls at hl ⊢
  have hl : lv_has ls 5 [(0, .ref (h 0)), (1, .int p0), (2, .int p1), (3, .int p2)] := hl
  skip
  refine lv_iload_n hx hb dX11_value_0 rfl (lv_at hl 2 rfl) ?_
  refine lv_bipush (v := 10) hx hb dX11_value_1 (by decide) ?_
  have hPc := hP.sub (ws' := []) [] rfl
  have hDc := hD.sub (ws' := []) [] (by decide) rfl
  have hKc := hK.sub (tys' := []) [] rfl
  have hFc := va_free (wc := []) hD hS hA [] rfl
  refine vx_callv (vx_runS (As := [.int p1, .int 10]) (rest := []) ⟨hx, hb, hml, hown, ht⟩ (k_X11_checkIndex l hl0 _ D p1 10) (va_cwS 2 ht (zG_S zw_402 zw_403 zw_404 zw_405) rfl rfl rfl (by decide +kernel) ⟨Nat.le_of_ble_eq_true rfl, Nat.le_of_ble_eq_true rfl⟩) (zW_S hEx hS hFc hPc hKc hDc) rfl rfl hl.1 rfl (lv_room (Nat.le_of_ble_eq_true rfl)) dX11_value_3 ⟨Nat.le_of_ble_eq_true rfl, Nat.le_of_ble_eq_true rfl⟩) hS (fun q _ h => hFc q h) hFc (fun q _ h => hFc q h) (fun E ce q9 uu t H1 locs1 ht0 hvm hpx hB hz1 hk1 hS hcell hv hcl => ?_) (fun u_1 t H1 locs ht0 hvm hw_1 hB hz1 hk1 hS => ?_)
  · exact vx_out (fun x hx => (hexc x hx).elim) hlocks hcell hv hcl (fun t2 h2 hv2 => ⟨(), trivial, (by obtain ⟨hE, hb9⟩ := hB; (try simp only [Int32.reduceToInt] at hb9); exact .inl ⟨hE, (show zS_value p0 p1 p2 1 0 from (.inl ⟨rfl, by omega⟩))⟩), hS.F h2⟩) hS.2.2 (Nat.le_of_ble_eq_true rfl) (Nat.le_of_ble_eq_true rfl)
  obtain ⟨hP1, hK1, hD1⟩ := hB
  rw [ht0] at hP1
  have hK1 := va_K.moved hvm.symm hK1
  obtain ⟨hP, hD⟩ := va_join (wr := [((h 0), .inr (11, [.ref (h 1), .ref (h 9), .int 0, .int 0, .ref (h 20), .ref (h 37), .int 0, .ref (h 38), .ref (h 42), .ref (h 43), .ref (h 44), .ref (h 45), .ref (h 46), .ref (h 47), .ref (h 48)])), ((h 1), .inr (8, [.ref (h 2), .int 0, .ref (h 3), .ref (h 4), .int 0, .ref (h 5), .int 0, .ref (h 6), .int 0, .ref (h 7), .int 0])), ((h 3), .inl ((cs 9), 10, .inr (.inr (.inr (.inr (fun _ => none))))))]) (w1 := []) hP hD [] [0, 1, 2] rfl rfl (by decide) (by decide) hk1 hFc hP1 hD1
  generalize H1 = H at hP hS ⊢
  have hP : va_P D vwCl [((h 0), .inr (11, [.ref (h 1), .ref (h 9), .int 0, .int 0, .ref (h 20), .ref (h 37), .int 0, .ref (h 38), .ref (h 42), .ref (h 43), .ref (h 44), .ref (h 45), .ref (h 46), .ref (h 47), .ref (h 48)])), ((h 1), .inr (8, [.ref (h 2), .int 0, .ref (h 3), .ref (h 4), .int 0, .ref (h 5), .int 0, .ref (h 6), .int 0, .ref (h 7), .int 0])), ((h 3), .inl ((cs 9), 10, .inr (.inr (.inr (.inr (fun _ => none))))))] H := hP
  have hD : va_D A [((h 0), .inr (11, [.ref (h 1), .ref (h 9), .int 0, .int 0, .ref (h 20), .ref (h 37), .int 0, .ref (h 38), .ref (h 42), .ref (h 43), .ref (h 44), .ref (h 45), .ref (h 46), .ref (h 47), .ref (h 48)])), ((h 1), .inr (8, [.ref (h 2), .int 0, .ref (h 3), .ref (h 4), .int 0, .ref (h 5), .int 0, .ref (h 6), .int 0, .ref (h 7), .int 0])), ((h 3), .inl ((cs 9), 10, .inr (.inr (.inr (.inr (fun _ => none))))))] := hD
  refine W.widen (k := 1) (n := 6) (Nat.le_of_ble_eq_true rfl) (Nat.le_of_ble_eq_true rfl) ?_
  simp only [Int32.reduceToInt] at hw_1
  refine lv_aload_n hx hb dX11_value_6 rfl (lv_at hl 0 rfl) ?_
  refine lv_iload_n hx hb dX11_value_7 rfl (lv_at hl 2 rfl) ?_
  have hPc := hP.sub (ws' := [((h 0), .inr (11, [.ref (h 1), .ref (h 9), .int 0, .int 0, .ref (h 20), .ref (h 37), .int 0, .ref (h 38), .ref (h 42), .ref (h 43), .ref (h 44), .ref (h 45), .ref (h 46), .ref (h 47), .ref (h 48)])), ((h 1), .inr (8, [.ref (h 2), .int 0, .ref (h 3), .ref (h 4), .int 0, .ref (h 5), .int 0, .ref (h 6), .int 0, .ref (h 7), .int 0])), ((h 3), .inl ((cs 9), 10, .inr (.inr (.inr (.inr (fun _ => none))))))]) [0, 1, 2] rfl
  have hDc := hD.sub (ws' := [((h 0), .inr (11, [.ref (h 1), .ref (h 9), .int 0, .int 0, .ref (h 20), .ref (h 37), .int 0, .ref (h 38), .ref (h 42), .ref (h 43), .ref (h 44), .ref (h 45), .ref (h 46), .ref (h 47), .ref (h 48)])), ((h 1), .inr (8, [.ref (h 2), .int 0, .ref (h 3), .ref (h 4), .int 0, .ref (h 5), .int 0, .ref (h 6), .int 0, .ref (h 7), .int 0])), ((h 3), .inl ((cs 9), 10, .inr (.inr (.inr (.inr (fun _ => none))))))]) [0, 1, 2] (by decide) rfl
  have hKc := hK.sub (tys' := [((cs 9), .object RX9)]) [0] rfl
  have hFc := va_free (wc := [((h 0), .inr (11, [.ref (h 1), .ref (h 9), .int 0, .int 0, .ref (h 20), .ref (h 37), .int 0, .ref (h 38), .ref (h 42), .ref (h 43), .ref (h 44), .ref (h 45), .ref (h 46), .ref (h 47), .ref (h 48)])), ((h 1), .inr (8, [.ref (h 2), .int 0, .ref (h 3), .ref (h 4), .int 0, .ref (h 5), .int 0, .ref (h 6), .int 0, .ref (h 7), .int 0])), ((h 3), .inl ((cs 9), 10, .inr (.inr (.inr (.inr (fun _ => none))))))]) hD hS hA [0, 1, 2] rfl
  refine vx_callq (vx_runV (As := [.int p1]) (rest := []) ⟨hx, hb, hml, hown, ht⟩ (k_X11_filled l hl0 _ D h cs p1 hw_1) (cwV 1 ht (zG_V zw_406 zw_407 zw_408 zw_404 zw_409) rfl rfl rfl (by decide +kernel) ⟨Nat.le_of_ble_eq_true rfl, Nat.le_of_ble_eq_true rfl⟩) (zW_V (va_recv hK hP (ci := 11) (q0 := 0) rfl rfl) hEx hS hFc hPc hKc hDc) rfl rfl hl.1 rfl (lv_room (Nat.le_of_ble_eq_true rfl)) dX11_value_8 ⟨Nat.le_of_ble_eq_true rfl, Nat.le_of_ble_eq_true rfl⟩) hS (fun q _ h => hFc q h) hFc (fun q _ h => hFc q h) (fun E ce q9 uu t H1 locs1 ht0 hvm hpx hB hz1 hk1 hS hcell hv hcl => ?_) (fun r_2 u_2 t H1 locs ht0 hvm hw_2 hB hz1 hk1 hS => ?_)
  · exact vx_out (fun x hx => (hexc x hx).elim) hlocks hcell hv hcl (fun t2 h2 hv2 => ⟨(), trivial, (by obtain ⟨hE, hb9⟩ := hB; (try simp only [Int32.reduceToInt] at hb9); exact .inr (⟨hE, (show zS_value p0 p1 p2 2 0 from (.inr ⟨rfl, by omega⟩))⟩)), hS.F h2⟩) hS.2.2 (Nat.le_of_ble_eq_true rfl) (Nat.le_of_ble_eq_true rfl)
  exact hw_2.elim
set_option maxHeartbeats 4000000 in
set_option maxRecDepth 100000 in
theorem k_X11_restore (l : Launch) (hl0 : l.stackTraces = false) (sz : Nat) (D : va_G) (h cs : Nat → Nat) (p0 : Int32) : vx_Met l yX11_restore (.code yX11_restore cX11_restore 2 (some .int) :: zT) ({ frames := 7, cells := 2, slots := 12, locals := 111 }) (va_Pc [.ref (h 0), .int p0] (zW D [((h 0), .inr (11, [.ref (h 1), .ref (h 9), .int 0, .int 0, .ref (h 20), .ref (h 37), .int 0, .ref (h 38), .ref (h 42), .ref (h 43), .ref (h 44), .ref (h 45), .ref (h 46), .ref (h 47), .ref (h 48)])), ((h 37), .inl ((cs 14), 2, .inl zI0))] [((cs 14), .boolean)] sz)) (va_Qi (fun (r : Int32) (_ : Unit) => zS_restore p0 0 r) (fun _ t => zE D [] [] (va_A [((h 0), .inr (11, [.ref (h 1), .ref (h 9), .int 0, .int 0, .ref (h 20), .ref (h 37), .int 0, .ref (h 38), .ref (h 42), .ref (h 43), .ref (h 44), .ref (h 45), .ref (h 46), .ref (h 47), .ref (h 48)])), ((h 37), .inl ((cs 14), 2, .inl zI0))] sz) t) (va_A [((h 0), .inr (11, [.ref (h 1), .ref (h 9), .int 0, .int 0, .ref (h 20), .ref (h 37), .int 0, .ref (h 38), .ref (h 42), .ref (h 43), .ref (h 44), .ref (h 45), .ref (h 46), .ref (h 47), .ref (h 48)])), ((h 37), .inl ((cs 14), 2, .inl zI0))] sz)) (vx_X (fun _ : Unit => True) (fun E _ _ => (E = "java/lang/IndexOutOfBoundsException" ∧ zS_restore p0 1 0) ∨ (E = "java/lang/IllegalStateException" ∧ zS_restore p0 2 0)) (va_A [((h 0), .inr (11, [.ref (h 1), .ref (h 9), .int 0, .int 0, .ref (h 20), .ref (h 37), .int 0, .ref (h 38), .ref (h 42), .ref (h 43), .ref (h 44), .ref (h 45), .ref (h 46), .ref (h 47), .ref (h 48)])), ((h 37), .inl ((cs 14), 2, .inl zI0))] sz)) 2 12 (va_A [((h 0), .inr (11, [.ref (h 1), .ref (h 9), .int 0, .int 0, .ref (h 20), .ref (h 37), .int 0, .ref (h 38), .ref (h 42), .ref (h 43), .ref (h 44), .ref (h 45), .ref (h 46), .ref (h 47), .ref (h 48)])), ((h 37), .inl ((cs 14), 2, .inl zI0))] sz) := by
  refine vx_ofW (cc := cX11_restore) (maxL := 2) (ret := (some .int)) (by decide) rfl ?_
  intro p e s m args below meth c s₁ B hml hexc hv
  obtain ⟨rfl, hEx, hsz, hP, hK, hD0⟩ := hv
  have hx := B.exec
  have hb := B.bytes
  have hr := B.returns
  have hts := atoms_spec (ws := (.code yX11_restore cX11_restore 2 (some .int) :: zT)) B.pre
  have ht : ∀ w ∈ zT, w.before _ s = true := fun w h => hts w (List.mem_cons_of_mem _ h)
  have hown : s.vm.findClass RX11 = some m.cls := findClass_of_methodNamed B.named
  have hlocks := B.notSynchronized
  subst hsz
  have hD := hD0.self (sz := s.heap.size)
  generalize hAe : va_A [((h 0), .inr (11, [.ref (h 1), .ref (h 9), .int 0, .int 0, .ref (h 20), .ref (h 37), .int 0, .ref (h 38), .ref (h 42), .ref (h 43), .ref (h 44), .ref (h 45), .ref (h 46), .ref (h 47), .ref (h 48)])), ((h 37), .inl ((cs 14), 2, .inl zI0))] s.heap.size = A at hD hEx ⊢
  have hA : ∀ q : Nat, s.heap.size ≤ q → A q := fun q h => by rw [← hAe]; exact Or.inr h
  have hS : va_S A s.heap s.heap [] := va_S.rf
  have hP : va_P D vwCl [((h 0), .inr (11, [.ref (h 1), .ref (h 9), .int 0, .int 0, .ref (h 20), .ref (h 37), .int 0, .ref (h 38), .ref (h 42), .ref (h 43), .ref (h 44), .ref (h 45), .ref (h 46), .ref (h 47), .ref (h 48)])), ((h 37), .inl ((cs 14), 2, .inl zI0))] s.heap := hP
  have hl := lv_entry ([.ref (h 0), .int p0]) (n := 2) (Nat.le_of_ble_eq_true rfl)
  rw [lg_entry_eq]
  generalize (lg_sl ([.ref (h 0), .int p0]) ++ List.replicate (2 - (lg_sl ([.ref (h 0), .int p0])).length) Slot.unset).toArray = ls at hl ⊢
  have hl : lv_has ls 2 [(0, .ref (h 0)), (1, .int p0)] := hl
  skip
  refine lv_iload_n hx hb dX11_restore_0 rfl (lv_at hl 1 rfl) ?_
  refine lv_iconst (v := 2) hx hb dX11_restore_1 (by decide) ?_
  have hPc := hP.sub (ws' := []) [] rfl
  have hDc := hD.sub (ws' := []) [] (by decide) rfl
  have hKc := hK.sub (tys' := []) [] rfl
  have hFc := va_free (wc := []) hD hS hA [] rfl
  refine vx_callv (vx_runS (As := [.int p0, .int 2]) (rest := []) ⟨hx, hb, hml, hown, ht⟩ (k_X11_checkIndex l hl0 _ D p0 2) (va_cwS 2 ht (zG_S zw_402 zw_403 zw_404 zw_405) rfl rfl rfl (by decide +kernel) ⟨Nat.le_of_ble_eq_true rfl, Nat.le_of_ble_eq_true rfl⟩) (zW_S hEx hS hFc hPc hKc hDc) rfl rfl hl.1 rfl (lv_room (Nat.le_of_ble_eq_true rfl)) dX11_restore_2 ⟨Nat.le_of_ble_eq_true rfl, Nat.le_of_ble_eq_true rfl⟩) hS (fun q _ h => hFc q h) hFc (fun q _ h => hFc q h) (fun E ce q9 uu t H1 locs1 ht0 hvm hpx hB hz1 hk1 hS hcell hv hcl => ?_) (fun u_1 t H1 locs ht0 hvm hw_1 hB hz1 hk1 hS => ?_)
  · exact vx_out (fun x hx => (hexc x hx).elim) hlocks hcell hv hcl (fun t2 h2 hv2 => ⟨(), trivial, (by obtain ⟨hE, hb9⟩ := hB; (try simp only [Int32.reduceToInt] at hb9); exact .inl ⟨hE, (show zS_restore p0 1 0 from (.inl ⟨rfl, by omega⟩))⟩), hS.F h2⟩) hS.2.2 (Nat.le_of_ble_eq_true rfl) (Nat.le_of_ble_eq_true rfl)
  obtain ⟨hP1, hK1, hD1⟩ := hB
  rw [ht0] at hP1
  have hK1 := va_K.moved hvm.symm hK1
  obtain ⟨hP, hD⟩ := va_join (wr := [((h 0), .inr (11, [.ref (h 1), .ref (h 9), .int 0, .int 0, .ref (h 20), .ref (h 37), .int 0, .ref (h 38), .ref (h 42), .ref (h 43), .ref (h 44), .ref (h 45), .ref (h 46), .ref (h 47), .ref (h 48)])), ((h 37), .inl ((cs 14), 2, .inl zI0))]) (w1 := []) hP hD [] [0, 1] rfl rfl (by decide) (by decide) hk1 hFc hP1 hD1
  generalize H1 = H at hP hS ⊢
  have hP : va_P D vwCl [((h 0), .inr (11, [.ref (h 1), .ref (h 9), .int 0, .int 0, .ref (h 20), .ref (h 37), .int 0, .ref (h 38), .ref (h 42), .ref (h 43), .ref (h 44), .ref (h 45), .ref (h 46), .ref (h 47), .ref (h 48)])), ((h 37), .inl ((cs 14), 2, .inl zI0))] H := hP
  have hD : va_D A [((h 0), .inr (11, [.ref (h 1), .ref (h 9), .int 0, .int 0, .ref (h 20), .ref (h 37), .int 0, .ref (h 38), .ref (h 42), .ref (h 43), .ref (h 44), .ref (h 45), .ref (h 46), .ref (h 47), .ref (h 48)])), ((h 37), .inl ((cs 14), 2, .inl zI0))] := hD
  refine W.widen (k := 1) (n := 6) (Nat.le_of_ble_eq_true rfl) (Nat.le_of_ble_eq_true rfl) ?_
  simp only [Int32.reduceToInt] at hw_1
  refine lv_aload_n hx hb dX11_restore_5 rfl (lv_at hl 0 rfl) ?_
  refine va_get (D := D) (ci := 11) (v := .ref (h 37)) (C := RX11) (T := TX11) (N := 15) hx hb ht zinX11 hown hK hP 0 rfl rfl 5 (by decide) (ht _ zw_359) (fun _ h9 => h9) rfl dX11_restore_6 ?_
  refine lv_iload_n hx hb dX11_restore_9 rfl (lv_at hl 1 rfl) ?_
  refine va_zald hx hb hK hP 1 0 rfl rfl (vp_in_iff.mpr ⟨hw_1.1, by have hq := hw_1.2; omega⟩) dX11_restore_10 ?_
  refine W.eq (g2 := F0 m 11 ls (.int 0 :: [])) rfl ?_
  refine lv_if_ne (tgt := 25) hx hb dX11_restore_11 (by decide) (fun c_3 => ?_) (fun c_3 => ?_)
  · skip
    exact absurd c_3 (by decide)
  · skip
    exact zthrow (k := 3) (names := ["java/lang/RuntimeException", "java/lang/Exception"]) (ix := 7) (rx := zSix) (text := "no image was kept there") (is := 390) hx hb hl0 (by decide) (by decide) (by decide +kernel) (by decide +kernel) (by decide +kernel) (by decide +kernel) zw_392 zw_393 zAt_ISE zOt_ISE (by decide +kernel) (by decide +kernel) hown ht hEx hS (hl.1.trans hml.symm) dX11_restore_14 dX11_restore_17 (.inr ⟨dX11_restore_18, rfl⟩) dX11_restore_21 dX11_restore_24 hexc (Nat.le_of_ble_eq_true rfl) (Nat.le_of_ble_eq_true rfl) (Nat.le_of_ble_eq_true rfl) (Nat.le_of_ble_eq_true rfl) hlocks (fun t hvm hF => ⟨(), trivial, (.inr (⟨rfl, (show zS_restore p0 2 0 from (.inr ⟨rfl, by omega⟩))⟩)), hF⟩) hS.2.2 (Nat.le_of_ble_eq_true rfl) (Nat.le_of_ble_eq_true rfl)
set_option maxHeartbeats 4000000 in
set_option maxRecDepth 100000 in
theorem k_X11_cases (l : Launch) (hl0 : l.stackTraces = false) (sz : Nat) (D : va_G) (h cs : Nat → Nat) (p0 p1 p2 : Int32) : vx_Met l yX11_cases (.code yX11_cases cX11_cases 8 (some .int) :: zT) ({ frames := 7, cells := 2, slots := 12, locals := 112 }) (va_Pc [.ref (h 0), .int p0, .int p1, .int p2] (zW D [((h 0), .inr (11, [.ref (h 1), .ref (h 9), .int 0, .int 0, .ref (h 20), .ref (h 37), .int 0, .ref (h 38), .ref (h 42), .ref (h 43), .ref (h 44), .ref (h 45), .ref (h 46), .ref (h 47), .ref (h 48)])), ((h 1), .inr (8, [.ref (h 2), .int 0, .ref (h 3), .ref (h 4), .int 0, .ref (h 5), .int 0, .ref (h 6), .int 0, .ref (h 7), .int 0])), ((h 4), .inl ((cs 4), 100, .inr (.inr (.inr (.inr (fun _ => none))))))] [((cs 4), .object RX4)] sz)) (va_Qi (fun (r : Int32) (_ : Unit) => zS_cases p0 p1 p2 0 r) (fun _ t => zE D [] [] (va_A [((h 0), .inr (11, [.ref (h 1), .ref (h 9), .int 0, .int 0, .ref (h 20), .ref (h 37), .int 0, .ref (h 38), .ref (h 42), .ref (h 43), .ref (h 44), .ref (h 45), .ref (h 46), .ref (h 47), .ref (h 48)])), ((h 1), .inr (8, [.ref (h 2), .int 0, .ref (h 3), .ref (h 4), .int 0, .ref (h 5), .int 0, .ref (h 6), .int 0, .ref (h 7), .int 0])), ((h 4), .inl ((cs 4), 100, .inr (.inr (.inr (.inr (fun _ => none))))))] sz) t) (va_A [((h 0), .inr (11, [.ref (h 1), .ref (h 9), .int 0, .int 0, .ref (h 20), .ref (h 37), .int 0, .ref (h 38), .ref (h 42), .ref (h 43), .ref (h 44), .ref (h 45), .ref (h 46), .ref (h 47), .ref (h 48)])), ((h 1), .inr (8, [.ref (h 2), .int 0, .ref (h 3), .ref (h 4), .int 0, .ref (h 5), .int 0, .ref (h 6), .int 0, .ref (h 7), .int 0])), ((h 4), .inl ((cs 4), 100, .inr (.inr (.inr (.inr (fun _ => none))))))] sz)) (vx_X (fun _ : Unit => True) (fun E _ _ => (E = "java/lang/IllegalArgumentException" ∧ zS_cases p0 p1 p2 1 0) ∨ (E = "java/util/NoSuchElementException" ∧ zS_cases p0 p1 p2 2 0)) (va_A [((h 0), .inr (11, [.ref (h 1), .ref (h 9), .int 0, .int 0, .ref (h 20), .ref (h 37), .int 0, .ref (h 38), .ref (h 42), .ref (h 43), .ref (h 44), .ref (h 45), .ref (h 46), .ref (h 47), .ref (h 48)])), ((h 1), .inr (8, [.ref (h 2), .int 0, .ref (h 3), .ref (h 4), .int 0, .ref (h 5), .int 0, .ref (h 6), .int 0, .ref (h 7), .int 0])), ((h 4), .inl ((cs 4), 100, .inr (.inr (.inr (.inr (fun _ => none))))))] sz)) 2 12 (va_A [((h 0), .inr (11, [.ref (h 1), .ref (h 9), .int 0, .int 0, .ref (h 20), .ref (h 37), .int 0, .ref (h 38), .ref (h 42), .ref (h 43), .ref (h 44), .ref (h 45), .ref (h 46), .ref (h 47), .ref (h 48)])), ((h 1), .inr (8, [.ref (h 2), .int 0, .ref (h 3), .ref (h 4), .int 0, .ref (h 5), .int 0, .ref (h 6), .int 0, .ref (h 7), .int 0])), ((h 4), .inl ((cs 4), 100, .inr (.inr (.inr (.inr (fun _ => none))))))] sz) := by
  refine vx_ofW (cc := cX11_cases) (maxL := 8) (ret := (some .int)) (by decide) rfl ?_
  intro p e s m args below meth c s₁ B hml hexc hv
  obtain ⟨rfl, hEx, hsz, hP, hK, hD0⟩ := hv
  have hx := B.exec
  have hb := B.bytes
  have hr := B.returns
  have hts := atoms_spec (ws := (.code yX11_cases cX11_cases 8 (some .int) :: zT)) B.pre
  have ht : ∀ w ∈ zT, w.before _ s = true := fun w h => hts w (List.mem_cons_of_mem _ h)
  have hown : s.vm.findClass RX11 = some m.cls := findClass_of_methodNamed B.named
  have hlocks := B.notSynchronized
  subst hsz
  have hD := hD0.self (sz := s.heap.size)
  generalize hAe : va_A [((h 0), .inr (11, [.ref (h 1), .ref (h 9), .int 0, .int 0, .ref (h 20), .ref (h 37), .int 0, .ref (h 38), .ref (h 42), .ref (h 43), .ref (h 44), .ref (h 45), .ref (h 46), .ref (h 47), .ref (h 48)])), ((h 1), .inr (8, [.ref (h 2), .int 0, .ref (h 3), .ref (h 4), .int 0, .ref (h 5), .int 0, .ref (h 6), .int 0, .ref (h 7), .int 0])), ((h 4), .inl ((cs 4), 100, .inr (.inr (.inr (.inr (fun _ => none))))))] s.heap.size = A at hD hEx ⊢
  have hA : ∀ q : Nat, s.heap.size ≤ q → A q := fun q h => by rw [← hAe]; exact Or.inr h
  have hS : va_S A s.heap s.heap [] := va_S.rf
  have hP : va_P D vwCl [((h 0), .inr (11, [.ref (h 1), .ref (h 9), .int 0, .int 0, .ref (h 20), .ref (h 37), .int 0, .ref (h 38), .ref (h 42), .ref (h 43), .ref (h 44), .ref (h 45), .ref (h 46), .ref (h 47), .ref (h 48)])), ((h 1), .inr (8, [.ref (h 2), .int 0, .ref (h 3), .ref (h 4), .int 0, .ref (h 5), .int 0, .ref (h 6), .int 0, .ref (h 7), .int 0])), ((h 4), .inl ((cs 4), 100, .inr (.inr (.inr (.inr (fun _ => none))))))] s.heap := hP
  have hl := lv_entry ([.ref (h 0), .int p0, .int p1, .int p2]) (n := 8) (Nat.le_of_ble_eq_true rfl)
  rw [lg_entry_eq]
  generalize (lg_sl ([.ref (h 0), .int p0, .int p1, .int p2]) ++ List.replicate (8 - (lg_sl ([.ref (h 0), .int p0, .int p1, .int p2])).length) Slot.unset).toArray = ls at hl ⊢
  have hl : lv_has ls 8 [(0, .ref (h 0)), (1, .int p0), (2, .int p1), (3, .int p2)] := hl
  skip
  refine lv_iload_n hx hb dX11_cases_0 rfl (lv_at hl 1 rfl) ?_
  refine lv_bipush (v := 99) hx hb dX11_cases_1 (by decide) ?_
  have hPc := hP.sub (ws' := []) [] rfl
  have hDc := hD.sub (ws' := []) [] (by decide) rfl
  have hKc := hK.sub (tys' := []) [] rfl
  have hFc := va_free (wc := []) hD hS hA [] rfl
  refine vx_callv (vx_runS (As := [.int p0, .int 99]) (rest := []) ⟨hx, hb, hml, hown, ht⟩ (k_X11_checkNumber l hl0 _ D p0 99) (va_cwS 2 ht (zG_S zw_410 zw_411 zw_404 zw_412) rfl rfl rfl (by decide +kernel) ⟨Nat.le_of_ble_eq_true rfl, Nat.le_of_ble_eq_true rfl⟩) (zW_S hEx hS hFc hPc hKc hDc) rfl rfl hl.1 rfl (lv_room (Nat.le_of_ble_eq_true rfl)) dX11_cases_3 ⟨Nat.le_of_ble_eq_true rfl, Nat.le_of_ble_eq_true rfl⟩) hS (fun q _ h => hFc q h) hFc (fun q _ h => hFc q h) (fun E ce q9 uu t H1 locs1 ht0 hvm hpx hB hz1 hk1 hS hcell hv hcl => ?_) (fun u_1 t H1 locs ht0 hvm hw_1 hB hz1 hk1 hS => ?_)
  · exact vx_out (fun x hx => (hexc x hx).elim) hlocks hcell hv hcl (fun t2 h2 hv2 => ⟨(), trivial, (by obtain ⟨hE, hb9⟩ := hB; (try simp only [Int32.reduceToInt] at hb9); exact .inl ⟨hE, (show zS_cases p0 p1 p2 1 0 from (.inl ⟨rfl, by omega⟩))⟩), hS.F h2⟩) hS.2.2 (Nat.le_of_ble_eq_true rfl) (Nat.le_of_ble_eq_true rfl)
  obtain ⟨hP1, hK1, hD1⟩ := hB
  rw [ht0] at hP1
  have hK1 := va_K.moved hvm.symm hK1
  obtain ⟨hP, hD⟩ := va_join (wr := [((h 0), .inr (11, [.ref (h 1), .ref (h 9), .int 0, .int 0, .ref (h 20), .ref (h 37), .int 0, .ref (h 38), .ref (h 42), .ref (h 43), .ref (h 44), .ref (h 45), .ref (h 46), .ref (h 47), .ref (h 48)])), ((h 1), .inr (8, [.ref (h 2), .int 0, .ref (h 3), .ref (h 4), .int 0, .ref (h 5), .int 0, .ref (h 6), .int 0, .ref (h 7), .int 0])), ((h 4), .inl ((cs 4), 100, .inr (.inr (.inr (.inr (fun _ => none))))))]) (w1 := []) hP hD [] [0, 1, 2] rfl rfl (by decide) (by decide) hk1 hFc hP1 hD1
  generalize H1 = H at hP hS ⊢
  have hP : va_P D vwCl [((h 0), .inr (11, [.ref (h 1), .ref (h 9), .int 0, .int 0, .ref (h 20), .ref (h 37), .int 0, .ref (h 38), .ref (h 42), .ref (h 43), .ref (h 44), .ref (h 45), .ref (h 46), .ref (h 47), .ref (h 48)])), ((h 1), .inr (8, [.ref (h 2), .int 0, .ref (h 3), .ref (h 4), .int 0, .ref (h 5), .int 0, .ref (h 6), .int 0, .ref (h 7), .int 0])), ((h 4), .inl ((cs 4), 100, .inr (.inr (.inr (.inr (fun _ => none))))))] H := hP
  have hD : va_D A [((h 0), .inr (11, [.ref (h 1), .ref (h 9), .int 0, .int 0, .ref (h 20), .ref (h 37), .int 0, .ref (h 38), .ref (h 42), .ref (h 43), .ref (h 44), .ref (h 45), .ref (h 46), .ref (h 47), .ref (h 48)])), ((h 1), .inr (8, [.ref (h 2), .int 0, .ref (h 3), .ref (h 4), .int 0, .ref (h 5), .int 0, .ref (h 6), .int 0, .ref (h 7), .int 0])), ((h 4), .inl ((cs 4), 100, .inr (.inr (.inr (.inr (fun _ => none))))))] := hD
  refine W.widen (k := 1) (n := 6) (Nat.le_of_ble_eq_true rfl) (Nat.le_of_ble_eq_true rfl) ?_
  simp only [Int32.reduceToInt] at hw_1
  refine lv_aload_n hx hb dX11_cases_6 rfl (lv_at hl 0 rfl) ?_
  refine va_get (D := D) (ci := 11) (v := .ref (h 1)) (C := RX11) (T := TX11) (N := 15) hx hb ht zinX11 hown hK hP 0 rfl rfl 0 (by decide) (ht _ zw_353) (fun _ h9 => h9) rfl dX11_cases_7 ?_
  refine lv_iload_n hx hb dX11_cases_10 rfl (lv_at hl 2 rfl) ?_
  refine va_csq (va_runV (As := [.int p1]) (rest := []) ⟨hx, hb, hml, hown, ht⟩ (k_X8_lawNamed l D h cs p1) (cwV 1 ht (zG_V zw_398 zw_395 zw_396 zw_334 zw_397) rfl rfl rfl (by decide +kernel) ⟨Nat.le_of_ble_eq_true rfl, Nat.le_of_ble_eq_true rfl⟩) (zR_V (va_recv hK hP (ci := 8) (q0 := 1) rfl rfl) (hP.sub (ws' := [((h 1), .inr (8, [.ref (h 2), .int 0, .ref (h 3), .ref (h 4), .int 0, .ref (h 5), .int 0, .ref (h 6), .int 0, .ref (h 7), .int 0])), ((h 4), .inl ((cs 4), 100, .inr (.inr (.inr (.inr (fun _ => none))))))]) [1, 2] rfl) hK) rfl rfl hl.1 rfl (lv_room (Nat.le_of_ble_eq_true rfl)) dX11_cases_11 ⟨Nat.le_of_ble_eq_true rfl, Nat.le_of_ble_eq_true rfl⟩).run (fun r_2 hw_2 => ?_)
  obtain rfl := hw_2
  refine W.eq (g2 := F0 m 14 ls (.null :: [])) rfl ?_
  refine lv_astoreN (lv' := [(4, .null), (0, .ref (h 0)), (1, .int p0), (2, .int p1), (3, .int p2)]) hx hb dX11_cases_14 hl (by decide) rfl (fun ls hl => ?_)
  refine lv_aload_n hx hb dX11_cases_16 rfl (lv_at hl 1 rfl) ?_
  refine va_get (D := D) (ci := 11) (v := .ref (h 1)) (C := RX11) (T := TX11) (N := 15) hx hb ht zinX11 hown hK hP 0 rfl rfl 0 (by decide) (ht _ zw_353) (fun _ h9 => h9) rfl dX11_cases_17 ?_
  refine lv_iload_n hx hb dX11_cases_20 rfl (lv_at hl 4 rfl) ?_
  refine va_csq (va_runV (As := [.int p2]) (rest := []) ⟨hx, hb, hml, hown, ht⟩ (k_X8_lawNamed l D h cs p2) (cwV 1 ht (zG_V zw_398 zw_395 zw_396 zw_334 zw_397) rfl rfl rfl (by decide +kernel) ⟨Nat.le_of_ble_eq_true rfl, Nat.le_of_ble_eq_true rfl⟩) (zR_V (va_recv hK hP (ci := 8) (q0 := 1) rfl rfl) (hP.sub (ws' := [((h 1), .inr (8, [.ref (h 2), .int 0, .ref (h 3), .ref (h 4), .int 0, .ref (h 5), .int 0, .ref (h 6), .int 0, .ref (h 7), .int 0])), ((h 4), .inl ((cs 4), 100, .inr (.inr (.inr (.inr (fun _ => none))))))]) [1, 2] rfl) hK) rfl rfl hl.1 rfl (lv_room (Nat.le_of_ble_eq_true rfl)) dX11_cases_21 ⟨Nat.le_of_ble_eq_true rfl, Nat.le_of_ble_eq_true rfl⟩).run (fun r_3 hw_3 => ?_)
  obtain rfl := hw_3
  refine W.eq (g2 := F0 m 24 ls (.null :: [])) rfl ?_
  refine lv_astoreN (lv' := [(5, .null), (4, .null), (0, .ref (h 0)), (1, .int p0), (2, .int p1), (3, .int p2)]) hx hb dX11_cases_24 hl (by decide) rfl (fun ls hl => ?_)
  refine lv_aloadN hx hb dX11_cases_26 (lv_at hl 1 rfl) ?_
  refine lv_ifnullN (tgt := 57) hx hb dX11_cases_28 (by decide) ?_
  refine lv_aload_n hx hb dX11_cases_57 rfl (lv_at hl 2 rfl) ?_
  refine lv_iload_n hx hb dX11_cases_58 rfl (lv_at hl 4 rfl) ?_
  have hPc := hP.sub (ws' := [((h 0), .inr (11, [.ref (h 1), .ref (h 9), .int 0, .int 0, .ref (h 20), .ref (h 37), .int 0, .ref (h 38), .ref (h 42), .ref (h 43), .ref (h 44), .ref (h 45), .ref (h 46), .ref (h 47), .ref (h 48)])), ((h 1), .inr (8, [.ref (h 2), .int 0, .ref (h 3), .ref (h 4), .int 0, .ref (h 5), .int 0, .ref (h 6), .int 0, .ref (h 7), .int 0])), ((h 4), .inl ((cs 4), 100, .inr (.inr (.inr (.inr (fun _ => none))))))]) [0, 1, 2] rfl
  have hDc := hD.sub (ws' := [((h 0), .inr (11, [.ref (h 1), .ref (h 9), .int 0, .int 0, .ref (h 20), .ref (h 37), .int 0, .ref (h 38), .ref (h 42), .ref (h 43), .ref (h 44), .ref (h 45), .ref (h 46), .ref (h 47), .ref (h 48)])), ((h 1), .inr (8, [.ref (h 2), .int 0, .ref (h 3), .ref (h 4), .int 0, .ref (h 5), .int 0, .ref (h 6), .int 0, .ref (h 7), .int 0])), ((h 4), .inl ((cs 4), 100, .inr (.inr (.inr (.inr (fun _ => none))))))]) [0, 1, 2] (by decide) rfl
  have hKc := hK.sub (tys' := [((cs 4), .object RX4)]) [0] rfl
  have hFc := va_free (wc := [((h 0), .inr (11, [.ref (h 1), .ref (h 9), .int 0, .int 0, .ref (h 20), .ref (h 37), .int 0, .ref (h 38), .ref (h 42), .ref (h 43), .ref (h 44), .ref (h 45), .ref (h 46), .ref (h 47), .ref (h 48)])), ((h 1), .inr (8, [.ref (h 2), .int 0, .ref (h 3), .ref (h 4), .int 0, .ref (h 5), .int 0, .ref (h 6), .int 0, .ref (h 7), .int 0])), ((h 4), .inl ((cs 4), 100, .inr (.inr (.inr (.inr (fun _ => none))))))]) hD hS hA [0, 1, 2] rfl
  refine vx_callq (vx_runV (As := [.int p1]) (rest := []) ⟨hx, hb, hml, hown, ht⟩ (k_X11_lawThere l hl0 _ D h cs p1) (cwV 1 ht (zG_V zw_425 zw_426 zw_427 zw_404 zw_428) rfl rfl rfl (by decide +kernel) ⟨Nat.le_of_ble_eq_true rfl, Nat.le_of_ble_eq_true rfl⟩) (zW_V (va_recv hK hP (ci := 11) (q0 := 0) rfl rfl) hEx hS hFc hPc hKc hDc) rfl rfl hl.1 rfl (lv_room (Nat.le_of_ble_eq_true rfl)) dX11_cases_59 ⟨Nat.le_of_ble_eq_true rfl, Nat.le_of_ble_eq_true rfl⟩) hS (fun q _ h => hFc q h) hFc (fun q _ h => hFc q h) (fun E ce q9 uu t H1 locs1 ht0 hvm hpx hB hz1 hk1 hS hcell hv hcl => ?_) (fun r_4 u_4 t H1 locs ht0 hvm hw_4 hB hz1 hk1 hS => ?_)
  · exact vx_out (fun x hx => (hexc x hx).elim) hlocks hcell hv hcl (fun t2 h2 hv2 => ⟨(), trivial, (by obtain ⟨hE, hb9⟩ := hB; (try simp only [Int32.reduceToInt] at hb9); exact .inr (⟨hE, (show zS_cases p0 p1 p2 2 0 from (.inr ⟨rfl, by omega⟩))⟩)), hS.F h2⟩) hS.2.2 (Nat.le_of_ble_eq_true rfl) (Nat.le_of_ble_eq_true rfl)
  exact hw_4.elim
set_option maxHeartbeats 4000000 in
set_option maxRecDepth 100000 in
theorem k_X11_across (l : Launch) (hl0 : l.stackTraces = false) (sz : Nat) (D : va_G) (h cs : Nat → Nat) (p0 p1 p2 p3 : Int32) : vx_Met l yX11_across (.code yX11_across cX11_across 12 (some .int) :: zT) ({ frames := 7, cells := 2, slots := 12, locals := 111 }) (va_Pc [.ref (h 0), .int p0, .int p1, .int p2, .int p3] (zW D [((h 0), .inr (11, [.ref (h 1), .ref (h 9), .int 0, .int 0, .ref (h 20), .ref (h 37), .int 0, .ref (h 38), .ref (h 42), .ref (h 43), .ref (h 44), .ref (h 45), .ref (h 46), .ref (h 47), .ref (h 48)])), ((h 1), .inr (8, [.ref (h 2), .int 0, .ref (h 3), .ref (h 4), .int 0, .ref (h 5), .int 0, .ref (h 6), .int 0, .ref (h 7), .int 0])), ((h 4), .inl ((cs 4), 100, .inr (.inr (.inr (.inr (fun _ => none))))))] [((cs 4), .object RX4)] sz)) (va_Qi (fun (r : Int32) (_ : Unit) => zS_across p0 p1 p2 p3 0 r) (fun _ t => zE D [] [] (va_A [((h 0), .inr (11, [.ref (h 1), .ref (h 9), .int 0, .int 0, .ref (h 20), .ref (h 37), .int 0, .ref (h 38), .ref (h 42), .ref (h 43), .ref (h 44), .ref (h 45), .ref (h 46), .ref (h 47), .ref (h 48)])), ((h 1), .inr (8, [.ref (h 2), .int 0, .ref (h 3), .ref (h 4), .int 0, .ref (h 5), .int 0, .ref (h 6), .int 0, .ref (h 7), .int 0])), ((h 4), .inl ((cs 4), 100, .inr (.inr (.inr (.inr (fun _ => none))))))] sz) t) (va_A [((h 0), .inr (11, [.ref (h 1), .ref (h 9), .int 0, .int 0, .ref (h 20), .ref (h 37), .int 0, .ref (h 38), .ref (h 42), .ref (h 43), .ref (h 44), .ref (h 45), .ref (h 46), .ref (h 47), .ref (h 48)])), ((h 1), .inr (8, [.ref (h 2), .int 0, .ref (h 3), .ref (h 4), .int 0, .ref (h 5), .int 0, .ref (h 6), .int 0, .ref (h 7), .int 0])), ((h 4), .inl ((cs 4), 100, .inr (.inr (.inr (.inr (fun _ => none))))))] sz)) (vx_X (fun _ : Unit => True) (fun E _ _ => (E = "java/lang/IllegalArgumentException" ∧ zS_across p0 p1 p2 p3 1 0) ∨ (E = "java/util/NoSuchElementException" ∧ zS_across p0 p1 p2 p3 2 0)) (va_A [((h 0), .inr (11, [.ref (h 1), .ref (h 9), .int 0, .int 0, .ref (h 20), .ref (h 37), .int 0, .ref (h 38), .ref (h 42), .ref (h 43), .ref (h 44), .ref (h 45), .ref (h 46), .ref (h 47), .ref (h 48)])), ((h 1), .inr (8, [.ref (h 2), .int 0, .ref (h 3), .ref (h 4), .int 0, .ref (h 5), .int 0, .ref (h 6), .int 0, .ref (h 7), .int 0])), ((h 4), .inl ((cs 4), 100, .inr (.inr (.inr (.inr (fun _ => none))))))] sz)) 2 12 (va_A [((h 0), .inr (11, [.ref (h 1), .ref (h 9), .int 0, .int 0, .ref (h 20), .ref (h 37), .int 0, .ref (h 38), .ref (h 42), .ref (h 43), .ref (h 44), .ref (h 45), .ref (h 46), .ref (h 47), .ref (h 48)])), ((h 1), .inr (8, [.ref (h 2), .int 0, .ref (h 3), .ref (h 4), .int 0, .ref (h 5), .int 0, .ref (h 6), .int 0, .ref (h 7), .int 0])), ((h 4), .inl ((cs 4), 100, .inr (.inr (.inr (.inr (fun _ => none))))))] sz) := by
  refine vx_ofW (cc := cX11_across) (maxL := 12) (ret := (some .int)) (by decide) rfl ?_
  intro p e s m args below meth c s₁ B hml hexc hv
  obtain ⟨rfl, hEx, hsz, hP, hK, hD0⟩ := hv
  have hx := B.exec
  have hb := B.bytes
  have hr := B.returns
  have hts := atoms_spec (ws := (.code yX11_across cX11_across 12 (some .int) :: zT)) B.pre
  have ht : ∀ w ∈ zT, w.before _ s = true := fun w h => hts w (List.mem_cons_of_mem _ h)
  have hown : s.vm.findClass RX11 = some m.cls := findClass_of_methodNamed B.named
  have hlocks := B.notSynchronized
  subst hsz
  have hD := hD0.self (sz := s.heap.size)
  generalize hAe : va_A [((h 0), .inr (11, [.ref (h 1), .ref (h 9), .int 0, .int 0, .ref (h 20), .ref (h 37), .int 0, .ref (h 38), .ref (h 42), .ref (h 43), .ref (h 44), .ref (h 45), .ref (h 46), .ref (h 47), .ref (h 48)])), ((h 1), .inr (8, [.ref (h 2), .int 0, .ref (h 3), .ref (h 4), .int 0, .ref (h 5), .int 0, .ref (h 6), .int 0, .ref (h 7), .int 0])), ((h 4), .inl ((cs 4), 100, .inr (.inr (.inr (.inr (fun _ => none))))))] s.heap.size = A at hD hEx ⊢
  have hA : ∀ q : Nat, s.heap.size ≤ q → A q := fun q h => by rw [← hAe]; exact Or.inr h
  have hS : va_S A s.heap s.heap [] := va_S.rf
  have hP : va_P D vwCl [((h 0), .inr (11, [.ref (h 1), .ref (h 9), .int 0, .int 0, .ref (h 20), .ref (h 37), .int 0, .ref (h 38), .ref (h 42), .ref (h 43), .ref (h 44), .ref (h 45), .ref (h 46), .ref (h 47), .ref (h 48)])), ((h 1), .inr (8, [.ref (h 2), .int 0, .ref (h 3), .ref (h 4), .int 0, .ref (h 5), .int 0, .ref (h 6), .int 0, .ref (h 7), .int 0])), ((h 4), .inl ((cs 4), 100, .inr (.inr (.inr (.inr (fun _ => none))))))] s.heap := hP
  have hl := lv_entry ([.ref (h 0), .int p0, .int p1, .int p2, .int p3]) (n := 12) (Nat.le_of_ble_eq_true rfl)
  rw [lg_entry_eq]
  generalize (lg_sl ([.ref (h 0), .int p0, .int p1, .int p2, .int p3]) ++ List.replicate (12 - (lg_sl ([.ref (h 0), .int p0, .int p1, .int p2, .int p3])).length) Slot.unset).toArray = ls at hl ⊢
  have hl : lv_has ls 12 [(0, .ref (h 0)), (1, .int p0), (2, .int p1), (3, .int p2), (4, .int p3)] := hl
  skip
  refine lv_iload_n hx hb dX11_across_0 rfl (lv_at hl 1 rfl) ?_
  refine lv_bipush (v := 99) hx hb dX11_across_1 (by decide) ?_
  have hPc := hP.sub (ws' := []) [] rfl
  have hDc := hD.sub (ws' := []) [] (by decide) rfl
  have hKc := hK.sub (tys' := []) [] rfl
  have hFc := va_free (wc := []) hD hS hA [] rfl
  refine vx_callv (vx_runS (As := [.int p0, .int 99]) (rest := []) ⟨hx, hb, hml, hown, ht⟩ (k_X11_checkNumber l hl0 _ D p0 99) (va_cwS 2 ht (zG_S zw_410 zw_411 zw_404 zw_412) rfl rfl rfl (by decide +kernel) ⟨Nat.le_of_ble_eq_true rfl, Nat.le_of_ble_eq_true rfl⟩) (zW_S hEx hS hFc hPc hKc hDc) rfl rfl hl.1 rfl (lv_room (Nat.le_of_ble_eq_true rfl)) dX11_across_3 ⟨Nat.le_of_ble_eq_true rfl, Nat.le_of_ble_eq_true rfl⟩) hS (fun q _ h => hFc q h) hFc (fun q _ h => hFc q h) (fun E ce q9 uu t H1 locs1 ht0 hvm hpx hB hz1 hk1 hS hcell hv hcl => ?_) (fun u_1 t H1 locs ht0 hvm hw_1 hB hz1 hk1 hS => ?_)
  · exact vx_out (fun x hx => (hexc x hx).elim) hlocks hcell hv hcl (fun t2 h2 hv2 => ⟨(), trivial, (by obtain ⟨hE, hb9⟩ := hB; (try simp only [Int32.reduceToInt] at hb9); exact .inl ⟨hE, (show zS_across p0 p1 p2 p3 1 0 from (.inl ⟨rfl, by omega⟩))⟩), hS.F h2⟩) hS.2.2 (Nat.le_of_ble_eq_true rfl) (Nat.le_of_ble_eq_true rfl)
  obtain ⟨hP1, hK1, hD1⟩ := hB
  rw [ht0] at hP1
  have hK1 := va_K.moved hvm.symm hK1
  obtain ⟨hP, hD⟩ := va_join (wr := [((h 0), .inr (11, [.ref (h 1), .ref (h 9), .int 0, .int 0, .ref (h 20), .ref (h 37), .int 0, .ref (h 38), .ref (h 42), .ref (h 43), .ref (h 44), .ref (h 45), .ref (h 46), .ref (h 47), .ref (h 48)])), ((h 1), .inr (8, [.ref (h 2), .int 0, .ref (h 3), .ref (h 4), .int 0, .ref (h 5), .int 0, .ref (h 6), .int 0, .ref (h 7), .int 0])), ((h 4), .inl ((cs 4), 100, .inr (.inr (.inr (.inr (fun _ => none))))))]) (w1 := []) hP hD [] [0, 1, 2] rfl rfl (by decide) (by decide) hk1 hFc hP1 hD1
  generalize H1 = H at hP hS ⊢
  have hP : va_P D vwCl [((h 0), .inr (11, [.ref (h 1), .ref (h 9), .int 0, .int 0, .ref (h 20), .ref (h 37), .int 0, .ref (h 38), .ref (h 42), .ref (h 43), .ref (h 44), .ref (h 45), .ref (h 46), .ref (h 47), .ref (h 48)])), ((h 1), .inr (8, [.ref (h 2), .int 0, .ref (h 3), .ref (h 4), .int 0, .ref (h 5), .int 0, .ref (h 6), .int 0, .ref (h 7), .int 0])), ((h 4), .inl ((cs 4), 100, .inr (.inr (.inr (.inr (fun _ => none))))))] H := hP
  have hD : va_D A [((h 0), .inr (11, [.ref (h 1), .ref (h 9), .int 0, .int 0, .ref (h 20), .ref (h 37), .int 0, .ref (h 38), .ref (h 42), .ref (h 43), .ref (h 44), .ref (h 45), .ref (h 46), .ref (h 47), .ref (h 48)])), ((h 1), .inr (8, [.ref (h 2), .int 0, .ref (h 3), .ref (h 4), .int 0, .ref (h 5), .int 0, .ref (h 6), .int 0, .ref (h 7), .int 0])), ((h 4), .inl ((cs 4), 100, .inr (.inr (.inr (.inr (fun _ => none))))))] := hD
  refine W.widen (k := 1) (n := 6) (Nat.le_of_ble_eq_true rfl) (Nat.le_of_ble_eq_true rfl) ?_
  simp only [Int32.reduceToInt] at hw_1
  refine lv_aload_n hx hb dX11_across_6 rfl (lv_at hl 0 rfl) ?_
  refine va_get (D := D) (ci := 11) (v := .ref (h 1)) (C := RX11) (T := TX11) (N := 15) hx hb ht zinX11 hown hK hP 0 rfl rfl 0 (by decide) (ht _ zw_353) (fun _ h9 => h9) rfl dX11_across_7 ?_
  refine lv_iload_n hx hb dX11_across_10 rfl (lv_at hl 2 rfl) ?_
  refine va_csq (va_runV (As := [.int p1]) (rest := []) ⟨hx, hb, hml, hown, ht⟩ (k_X8_lawNamed l D h cs p1) (cwV 1 ht (zG_V zw_398 zw_395 zw_396 zw_334 zw_397) rfl rfl rfl (by decide +kernel) ⟨Nat.le_of_ble_eq_true rfl, Nat.le_of_ble_eq_true rfl⟩) (zR_V (va_recv hK hP (ci := 8) (q0 := 1) rfl rfl) (hP.sub (ws' := [((h 1), .inr (8, [.ref (h 2), .int 0, .ref (h 3), .ref (h 4), .int 0, .ref (h 5), .int 0, .ref (h 6), .int 0, .ref (h 7), .int 0])), ((h 4), .inl ((cs 4), 100, .inr (.inr (.inr (.inr (fun _ => none))))))]) [1, 2] rfl) hK) rfl rfl hl.1 rfl (lv_room (Nat.le_of_ble_eq_true rfl)) dX11_across_11 ⟨Nat.le_of_ble_eq_true rfl, Nat.le_of_ble_eq_true rfl⟩).run (fun r_2 hw_2 => ?_)
  obtain rfl := hw_2
  refine W.eq (g2 := F0 m 14 ls (.null :: [])) rfl ?_
  refine lv_astoreN (lv' := [(5, .null), (0, .ref (h 0)), (1, .int p0), (2, .int p1), (3, .int p2), (4, .int p3)]) hx hb dX11_across_14 hl (by decide) rfl (fun ls hl => ?_)
  refine lv_aload_n hx hb dX11_across_16 rfl (lv_at hl 1 rfl) ?_
  refine va_get (D := D) (ci := 11) (v := .ref (h 1)) (C := RX11) (T := TX11) (N := 15) hx hb ht zinX11 hown hK hP 0 rfl rfl 0 (by decide) (ht _ zw_353) (fun _ h9 => h9) rfl dX11_across_17 ?_
  refine lv_iload_n hx hb dX11_across_20 rfl (lv_at hl 4 rfl) ?_
  refine va_csq (va_runV (As := [.int p2]) (rest := []) ⟨hx, hb, hml, hown, ht⟩ (k_X8_equivalenceNamed l D h cs p2) (cwV 1 ht (zG_V zw_443 zw_444 zw_445 zw_334 zw_446) rfl rfl rfl (by decide +kernel) ⟨Nat.le_of_ble_eq_true rfl, Nat.le_of_ble_eq_true rfl⟩) (zR_V (va_recv hK hP (ci := 8) (q0 := 1) rfl rfl) (hP.sub (ws' := [((h 1), .inr (8, [.ref (h 2), .int 0, .ref (h 3), .ref (h 4), .int 0, .ref (h 5), .int 0, .ref (h 6), .int 0, .ref (h 7), .int 0]))]) [1] rfl) (hK.sub (tys' := []) [] rfl)) rfl rfl hl.1 rfl (lv_room (Nat.le_of_ble_eq_true rfl)) dX11_across_21 ⟨Nat.le_of_ble_eq_true rfl, Nat.le_of_ble_eq_true rfl⟩).run (fun r_3 hw_3 => ?_)
  obtain rfl := hw_3
  refine W.eq (g2 := F0 m 24 ls (.null :: [])) rfl ?_
  refine lv_astoreN (lv' := [(6, .null), (5, .null), (0, .ref (h 0)), (1, .int p0), (2, .int p1), (3, .int p2), (4, .int p3)]) hx hb dX11_across_24 hl (by decide) rfl (fun ls hl => ?_)
  refine lv_aloadN hx hb dX11_across_26 (lv_at hl 1 rfl) ?_
  refine lv_ifnullN (tgt := 63) hx hb dX11_across_28 (by decide) ?_
  refine lv_aloadN hx hb dX11_across_63 (lv_at hl 1 rfl) ?_
  refine lv_ifnullN (tgt := 73) hx hb dX11_across_65 (by decide) ?_
  exact zthrow (k := 3) (names := ["java/lang/RuntimeException", "java/lang/Exception"]) (ix := 13) (rx := zThirteen) (text := "there is no such law or equivalence") (is := 303) hx hb hl0 (by decide) (by decide) (by decide +kernel) (by decide +kernel) (by decide +kernel) (by decide +kernel) zw_399 zw_400 zAt_NSEE zOt_NSEE (by decide +kernel) (by decide +kernel) hown ht hEx hS (hl.1.trans hml.symm) dX11_across_73 dX11_across_76 (.inr ⟨dX11_across_77, rfl⟩) dX11_across_80 dX11_across_83 hexc (Nat.le_of_ble_eq_true rfl) (Nat.le_of_ble_eq_true rfl) (Nat.le_of_ble_eq_true rfl) (Nat.le_of_ble_eq_true rfl) hlocks (fun t hvm hF => ⟨(), trivial, (.inr (⟨rfl, (show zS_across p0 p1 p2 p3 2 0 from (.inr ⟨rfl, by omega⟩))⟩)), hF⟩) hS.2.2 (Nat.le_of_ble_eq_true rfl) (Nat.le_of_ble_eq_true rfl)
set_option maxHeartbeats 4000000 in
set_option maxRecDepth 100000 in
theorem k_X11_termAt (l : Launch) (hl0 : l.stackTraces = false) (sz : Nat) (D : va_G) (h cs : Nat → Nat) (p0 p1 : Int32) : vx_Met l yX11_termAt (.code yX11_termAt cX11_termAt 4 (some .int) :: zT) ({ frames := 7, cells := 2, slots := 12, locals := 111 }) (va_Pc [.ref (h 0), .int p0, .int p1] (zW D [((h 0), .inr (11, [.ref (h 1), .ref (h 9), .int 0, .int 0, .ref (h 20), .ref (h 37), .int 0, .ref (h 38), .ref (h 42), .ref (h 43), .ref (h 44), .ref (h 45), .ref (h 46), .ref (h 47), .ref (h 48)])), ((h 1), .inr (8, [.ref (h 2), .int 0, .ref (h 3), .ref (h 4), .int 0, .ref (h 5), .int 0, .ref (h 6), .int 0, .ref (h 7), .int 0])), ((h 3), .inl ((cs 9), 10, .inr (.inr (.inr (.inr (fun _ => none))))))] [((cs 9), .object RX9)] sz)) (va_Qi (fun (r : Int32) (_ : Unit) => zS_termAt p0 p1 0 r) (fun _ t => zE D [] [] (va_A [((h 0), .inr (11, [.ref (h 1), .ref (h 9), .int 0, .int 0, .ref (h 20), .ref (h 37), .int 0, .ref (h 38), .ref (h 42), .ref (h 43), .ref (h 44), .ref (h 45), .ref (h 46), .ref (h 47), .ref (h 48)])), ((h 1), .inr (8, [.ref (h 2), .int 0, .ref (h 3), .ref (h 4), .int 0, .ref (h 5), .int 0, .ref (h 6), .int 0, .ref (h 7), .int 0])), ((h 3), .inl ((cs 9), 10, .inr (.inr (.inr (.inr (fun _ => none))))))] sz) t) (va_A [((h 0), .inr (11, [.ref (h 1), .ref (h 9), .int 0, .int 0, .ref (h 20), .ref (h 37), .int 0, .ref (h 38), .ref (h 42), .ref (h 43), .ref (h 44), .ref (h 45), .ref (h 46), .ref (h 47), .ref (h 48)])), ((h 1), .inr (8, [.ref (h 2), .int 0, .ref (h 3), .ref (h 4), .int 0, .ref (h 5), .int 0, .ref (h 6), .int 0, .ref (h 7), .int 0])), ((h 3), .inl ((cs 9), 10, .inr (.inr (.inr (.inr (fun _ => none))))))] sz)) (vx_X (fun _ : Unit => True) (fun E _ _ => (E = "java/lang/IndexOutOfBoundsException" ∧ zS_termAt p0 p1 1 0) ∨ (E = "java/lang/IllegalArgumentException" ∧ zS_termAt p0 p1 2 0)) (va_A [((h 0), .inr (11, [.ref (h 1), .ref (h 9), .int 0, .int 0, .ref (h 20), .ref (h 37), .int 0, .ref (h 38), .ref (h 42), .ref (h 43), .ref (h 44), .ref (h 45), .ref (h 46), .ref (h 47), .ref (h 48)])), ((h 1), .inr (8, [.ref (h 2), .int 0, .ref (h 3), .ref (h 4), .int 0, .ref (h 5), .int 0, .ref (h 6), .int 0, .ref (h 7), .int 0])), ((h 3), .inl ((cs 9), 10, .inr (.inr (.inr (.inr (fun _ => none))))))] sz)) 2 12 (va_A [((h 0), .inr (11, [.ref (h 1), .ref (h 9), .int 0, .int 0, .ref (h 20), .ref (h 37), .int 0, .ref (h 38), .ref (h 42), .ref (h 43), .ref (h 44), .ref (h 45), .ref (h 46), .ref (h 47), .ref (h 48)])), ((h 1), .inr (8, [.ref (h 2), .int 0, .ref (h 3), .ref (h 4), .int 0, .ref (h 5), .int 0, .ref (h 6), .int 0, .ref (h 7), .int 0])), ((h 3), .inl ((cs 9), 10, .inr (.inr (.inr (.inr (fun _ => none))))))] sz) := by
  refine vx_ofW (cc := cX11_termAt) (maxL := 4) (ret := (some .int)) (by decide) rfl ?_
  intro p e s m args below meth c s₁ B hml hexc hv
  obtain ⟨rfl, hEx, hsz, hP, hK, hD0⟩ := hv
  have hx := B.exec
  have hb := B.bytes
  have hr := B.returns
  have hts := atoms_spec (ws := (.code yX11_termAt cX11_termAt 4 (some .int) :: zT)) B.pre
  have ht : ∀ w ∈ zT, w.before _ s = true := fun w h => hts w (List.mem_cons_of_mem _ h)
  have hown : s.vm.findClass RX11 = some m.cls := findClass_of_methodNamed B.named
  have hlocks := B.notSynchronized
  subst hsz
  have hD := hD0.self (sz := s.heap.size)
  generalize hAe : va_A [((h 0), .inr (11, [.ref (h 1), .ref (h 9), .int 0, .int 0, .ref (h 20), .ref (h 37), .int 0, .ref (h 38), .ref (h 42), .ref (h 43), .ref (h 44), .ref (h 45), .ref (h 46), .ref (h 47), .ref (h 48)])), ((h 1), .inr (8, [.ref (h 2), .int 0, .ref (h 3), .ref (h 4), .int 0, .ref (h 5), .int 0, .ref (h 6), .int 0, .ref (h 7), .int 0])), ((h 3), .inl ((cs 9), 10, .inr (.inr (.inr (.inr (fun _ => none))))))] s.heap.size = A at hD hEx ⊢
  have hA : ∀ q : Nat, s.heap.size ≤ q → A q := fun q h => by rw [← hAe]; exact Or.inr h
  have hS : va_S A s.heap s.heap [] := va_S.rf
  have hP : va_P D vwCl [((h 0), .inr (11, [.ref (h 1), .ref (h 9), .int 0, .int 0, .ref (h 20), .ref (h 37), .int 0, .ref (h 38), .ref (h 42), .ref (h 43), .ref (h 44), .ref (h 45), .ref (h 46), .ref (h 47), .ref (h 48)])), ((h 1), .inr (8, [.ref (h 2), .int 0, .ref (h 3), .ref (h 4), .int 0, .ref (h 5), .int 0, .ref (h 6), .int 0, .ref (h 7), .int 0])), ((h 3), .inl ((cs 9), 10, .inr (.inr (.inr (.inr (fun _ => none))))))] s.heap := hP
  have hl := lv_entry ([.ref (h 0), .int p0, .int p1]) (n := 4) (Nat.le_of_ble_eq_true rfl)
  rw [lg_entry_eq]
  generalize (lg_sl ([.ref (h 0), .int p0, .int p1]) ++ List.replicate (4 - (lg_sl ([.ref (h 0), .int p0, .int p1])).length) Slot.unset).toArray = ls at hl ⊢
  have hl : lv_has ls 4 [(0, .ref (h 0)), (1, .int p0), (2, .int p1)] := hl
  skip
  refine lv_iload_n hx hb dX11_termAt_0 rfl (lv_at hl 1 rfl) ?_
  refine lv_bipush (v := 10) hx hb dX11_termAt_1 (by decide) ?_
  have hPc := hP.sub (ws' := []) [] rfl
  have hDc := hD.sub (ws' := []) [] (by decide) rfl
  have hKc := hK.sub (tys' := []) [] rfl
  have hFc := va_free (wc := []) hD hS hA [] rfl
  refine vx_callv (vx_runS (As := [.int p0, .int 10]) (rest := []) ⟨hx, hb, hml, hown, ht⟩ (k_X11_checkIndex l hl0 _ D p0 10) (va_cwS 2 ht (zG_S zw_402 zw_403 zw_404 zw_405) rfl rfl rfl (by decide +kernel) ⟨Nat.le_of_ble_eq_true rfl, Nat.le_of_ble_eq_true rfl⟩) (zW_S hEx hS hFc hPc hKc hDc) rfl rfl hl.1 rfl (lv_room (Nat.le_of_ble_eq_true rfl)) dX11_termAt_3 ⟨Nat.le_of_ble_eq_true rfl, Nat.le_of_ble_eq_true rfl⟩) hS (fun q _ h => hFc q h) hFc (fun q _ h => hFc q h) (fun E ce q9 uu t H1 locs1 ht0 hvm hpx hB hz1 hk1 hS hcell hv hcl => ?_) (fun u_1 t H1 locs ht0 hvm hw_1 hB hz1 hk1 hS => ?_)
  · exact vx_out (fun x hx => (hexc x hx).elim) hlocks hcell hv hcl (fun t2 h2 hv2 => ⟨(), trivial, (by obtain ⟨hE, hb9⟩ := hB; (try simp only [Int32.reduceToInt] at hb9); exact .inl ⟨hE, (show zS_termAt p0 p1 1 0 from (.inl ⟨rfl, by omega⟩))⟩), hS.F h2⟩) hS.2.2 (Nat.le_of_ble_eq_true rfl) (Nat.le_of_ble_eq_true rfl)
  obtain ⟨hP1, hK1, hD1⟩ := hB
  rw [ht0] at hP1
  have hK1 := va_K.moved hvm.symm hK1
  obtain ⟨hP, hD⟩ := va_join (wr := [((h 0), .inr (11, [.ref (h 1), .ref (h 9), .int 0, .int 0, .ref (h 20), .ref (h 37), .int 0, .ref (h 38), .ref (h 42), .ref (h 43), .ref (h 44), .ref (h 45), .ref (h 46), .ref (h 47), .ref (h 48)])), ((h 1), .inr (8, [.ref (h 2), .int 0, .ref (h 3), .ref (h 4), .int 0, .ref (h 5), .int 0, .ref (h 6), .int 0, .ref (h 7), .int 0])), ((h 3), .inl ((cs 9), 10, .inr (.inr (.inr (.inr (fun _ => none))))))]) (w1 := []) hP hD [] [0, 1, 2] rfl rfl (by decide) (by decide) hk1 hFc hP1 hD1
  generalize H1 = H at hP hS ⊢
  have hP : va_P D vwCl [((h 0), .inr (11, [.ref (h 1), .ref (h 9), .int 0, .int 0, .ref (h 20), .ref (h 37), .int 0, .ref (h 38), .ref (h 42), .ref (h 43), .ref (h 44), .ref (h 45), .ref (h 46), .ref (h 47), .ref (h 48)])), ((h 1), .inr (8, [.ref (h 2), .int 0, .ref (h 3), .ref (h 4), .int 0, .ref (h 5), .int 0, .ref (h 6), .int 0, .ref (h 7), .int 0])), ((h 3), .inl ((cs 9), 10, .inr (.inr (.inr (.inr (fun _ => none))))))] H := hP
  have hD : va_D A [((h 0), .inr (11, [.ref (h 1), .ref (h 9), .int 0, .int 0, .ref (h 20), .ref (h 37), .int 0, .ref (h 38), .ref (h 42), .ref (h 43), .ref (h 44), .ref (h 45), .ref (h 46), .ref (h 47), .ref (h 48)])), ((h 1), .inr (8, [.ref (h 2), .int 0, .ref (h 3), .ref (h 4), .int 0, .ref (h 5), .int 0, .ref (h 6), .int 0, .ref (h 7), .int 0])), ((h 3), .inl ((cs 9), 10, .inr (.inr (.inr (.inr (fun _ => none))))))] := hD
  refine W.widen (k := 1) (n := 6) (Nat.le_of_ble_eq_true rfl) (Nat.le_of_ble_eq_true rfl) ?_
  simp only [Int32.reduceToInt] at hw_1
  refine lv_iload_n hx hb dX11_termAt_6 rfl (lv_at hl 2 rfl) ?_
  refine lv_iconst (v := 3) hx hb dX11_termAt_7 (by decide) ?_
  have hPc := hP.sub (ws' := []) [] rfl
  have hDc := hD.sub (ws' := []) [] (by decide) rfl
  have hKc := hK.sub (tys' := []) [] rfl
  have hFc := va_free (wc := []) hD hS hA [] rfl
  refine vx_callv (vx_runS (As := [.int p1, .int 3]) (rest := []) ⟨hx, hb, hml, hown, ht⟩ (k_X11_checkNumber l hl0 _ D p1 3) (va_cwS 2 ht (zG_S zw_410 zw_411 zw_404 zw_412) rfl rfl rfl (by decide +kernel) ⟨Nat.le_of_ble_eq_true rfl, Nat.le_of_ble_eq_true rfl⟩) (zW_S hEx hS hFc hPc hKc hDc) rfl rfl hl.1 rfl (lv_room (Nat.le_of_ble_eq_true rfl)) dX11_termAt_8 ⟨Nat.le_of_ble_eq_true rfl, Nat.le_of_ble_eq_true rfl⟩) hS (fun q _ h => hFc q h) hFc (fun q _ h => hFc q h) (fun E ce q9 uu t H1 locs1 ht0 hvm hpx hB hz1 hk1 hS hcell hv hcl => ?_) (fun u_2 t H1 locs ht0 hvm hw_2 hB hz1 hk1 hS => ?_)
  · exact vx_out (fun x hx => (hexc x hx).elim) hlocks hcell hv hcl (fun t2 h2 hv2 => ⟨(), trivial, (by obtain ⟨hE, hb9⟩ := hB; (try simp only [Int32.reduceToInt] at hb9); exact .inr (⟨hE, (show zS_termAt p0 p1 2 0 from (.inr (.inl ⟨rfl, by omega⟩)))⟩)), hS.F h2⟩) hS.2.2 (Nat.le_of_ble_eq_true rfl) (Nat.le_of_ble_eq_true rfl)
  obtain ⟨hP1, hK1, hD1⟩ := hB
  rw [ht0] at hP1
  have hK1 := va_K.moved hvm.symm hK1
  obtain ⟨hP, hD⟩ := va_join (wr := [((h 0), .inr (11, [.ref (h 1), .ref (h 9), .int 0, .int 0, .ref (h 20), .ref (h 37), .int 0, .ref (h 38), .ref (h 42), .ref (h 43), .ref (h 44), .ref (h 45), .ref (h 46), .ref (h 47), .ref (h 48)])), ((h 1), .inr (8, [.ref (h 2), .int 0, .ref (h 3), .ref (h 4), .int 0, .ref (h 5), .int 0, .ref (h 6), .int 0, .ref (h 7), .int 0])), ((h 3), .inl ((cs 9), 10, .inr (.inr (.inr (.inr (fun _ => none))))))]) (w1 := []) hP hD [] [0, 1, 2] rfl rfl (by decide) (by decide) hk1 hFc hP1 hD1
  generalize H1 = H at hP hS ⊢
  have hP : va_P D vwCl [((h 0), .inr (11, [.ref (h 1), .ref (h 9), .int 0, .int 0, .ref (h 20), .ref (h 37), .int 0, .ref (h 38), .ref (h 42), .ref (h 43), .ref (h 44), .ref (h 45), .ref (h 46), .ref (h 47), .ref (h 48)])), ((h 1), .inr (8, [.ref (h 2), .int 0, .ref (h 3), .ref (h 4), .int 0, .ref (h 5), .int 0, .ref (h 6), .int 0, .ref (h 7), .int 0])), ((h 3), .inl ((cs 9), 10, .inr (.inr (.inr (.inr (fun _ => none))))))] H := hP
  have hD : va_D A [((h 0), .inr (11, [.ref (h 1), .ref (h 9), .int 0, .int 0, .ref (h 20), .ref (h 37), .int 0, .ref (h 38), .ref (h 42), .ref (h 43), .ref (h 44), .ref (h 45), .ref (h 46), .ref (h 47), .ref (h 48)])), ((h 1), .inr (8, [.ref (h 2), .int 0, .ref (h 3), .ref (h 4), .int 0, .ref (h 5), .int 0, .ref (h 6), .int 0, .ref (h 7), .int 0])), ((h 3), .inl ((cs 9), 10, .inr (.inr (.inr (.inr (fun _ => none))))))] := hD
  refine W.widen (k := 2) (n := 12) (Nat.le_of_ble_eq_true rfl) (Nat.le_of_ble_eq_true rfl) ?_
  simp only [Int32.reduceToInt] at hw_2
  refine lv_aload_n hx hb dX11_termAt_11 rfl (lv_at hl 0 rfl) ?_
  refine va_get (D := D) (ci := 11) (v := .ref (h 1)) (C := RX11) (T := TX11) (N := 15) hx hb ht zinX11 hown hK hP 0 rfl rfl 0 (by decide) (ht _ zw_353) (fun _ h9 => h9) rfl dX11_termAt_12 ?_
  refine va_get (D := D) (ci := 8) (v := .ref (h 3)) (C := RX8) (T := TX8) (N := 11) hx hb ht zinX8 hown hK hP 1 rfl rfl 2 (by decide) (ht _ zw_391) (fun _ h9 => h9) rfl dX11_termAt_15 ?_
  refine lv_iload_n hx hb dX11_termAt_18 rfl (lv_at hl 1 rfl) ?_
  refine va_aldq hx hb hK hP 2 0 rfl rfl (vp_in_iff.mpr ⟨hw_1.1, by have hq := hw_1.2; omega⟩) dX11_termAt_19 ?_
  refine W.eq (g2 := F0 m 20 ls (.null :: [])) rfl ?_
  refine lv_astore_nN (lv' := [(3, .null), (0, .ref (h 0)), (1, .int p0), (2, .int p1)]) hx hb dX11_termAt_20 rfl hl (by decide) rfl (fun ls hl => ?_)
  refine lv_aload_nN hx hb dX11_termAt_21 rfl (lv_at hl 0 rfl) ?_
  refine lv_ifnonnullN hx hb dX11_termAt_22 ?_
  refine lv_iconst (v := (-1)) hx hb dX11_termAt_25 (by decide) ?_
  have hP9 := hP.sub (ws' := []) [] rfl
  have hD9 := hD.sub (ws' := []) [] (by decide) rfl
  have hK9 := hK.sub (tys' := []) [] rfl
  refine W.widen (k := 2) (n := 12) (Nat.le_of_ble_eq_true rfl) (Nat.le_of_ble_eq_true rfl) ?_
  refine vx_ret ?_
  exact W.iret (v := (-1)) hx hb hr (fun t ht0 hW => ⟨⟨(-1), (), rfl, (show zS_termAt p0 p1 0 (-1) from (.inr (.inr ⟨rfl, by omega, rfl⟩))), (zE_of hP9 hK9 hD9 ht0 hW)⟩, hS.F ht0⟩) hS.2.2 dX11_termAt_26
set_option maxHeartbeats 4000000 in
set_option maxRecDepth 100000 in
theorem k_X11_areSame (l : Launch) (hl0 : l.stackTraces = false) (sz : Nat) (D : va_G) (h cs : Nat → Nat) (p0 p1 : Int32) : vx_Met l yX11_areSame (.code yX11_areSame cX11_areSame 5 (some .boolean) :: zT) ({ frames := 7, cells := 2, slots := 12, locals := 111 }) (va_Pc [.ref (h 0), .int p0, .int p1] (zW D [((h 0), .inr (11, [.ref (h 1), .ref (h 9), .int 0, .int 0, .ref (h 20), .ref (h 37), .int 0, .ref (h 38), .ref (h 42), .ref (h 43), .ref (h 44), .ref (h 45), .ref (h 46), .ref (h 47), .ref (h 48)])), ((h 1), .inr (8, [.ref (h 2), .int 0, .ref (h 3), .ref (h 4), .int 0, .ref (h 5), .int 0, .ref (h 6), .int 0, .ref (h 7), .int 0])), ((h 3), .inl ((cs 9), 10, .inr (.inr (.inr (.inr (fun _ => none))))))] [((cs 9), .object RX9)] sz)) (va_Qi (fun (r : Int32) (_ : Unit) => zS_areSame p0 p1 0 r) (fun _ t => zE D [] [] (va_A [((h 0), .inr (11, [.ref (h 1), .ref (h 9), .int 0, .int 0, .ref (h 20), .ref (h 37), .int 0, .ref (h 38), .ref (h 42), .ref (h 43), .ref (h 44), .ref (h 45), .ref (h 46), .ref (h 47), .ref (h 48)])), ((h 1), .inr (8, [.ref (h 2), .int 0, .ref (h 3), .ref (h 4), .int 0, .ref (h 5), .int 0, .ref (h 6), .int 0, .ref (h 7), .int 0])), ((h 3), .inl ((cs 9), 10, .inr (.inr (.inr (.inr (fun _ => none))))))] sz) t) (va_A [((h 0), .inr (11, [.ref (h 1), .ref (h 9), .int 0, .int 0, .ref (h 20), .ref (h 37), .int 0, .ref (h 38), .ref (h 42), .ref (h 43), .ref (h 44), .ref (h 45), .ref (h 46), .ref (h 47), .ref (h 48)])), ((h 1), .inr (8, [.ref (h 2), .int 0, .ref (h 3), .ref (h 4), .int 0, .ref (h 5), .int 0, .ref (h 6), .int 0, .ref (h 7), .int 0])), ((h 3), .inl ((cs 9), 10, .inr (.inr (.inr (.inr (fun _ => none))))))] sz)) (vx_X (fun _ : Unit => True) (fun E _ _ => (E = "java/lang/IndexOutOfBoundsException" ∧ zS_areSame p0 p1 1 0)) (va_A [((h 0), .inr (11, [.ref (h 1), .ref (h 9), .int 0, .int 0, .ref (h 20), .ref (h 37), .int 0, .ref (h 38), .ref (h 42), .ref (h 43), .ref (h 44), .ref (h 45), .ref (h 46), .ref (h 47), .ref (h 48)])), ((h 1), .inr (8, [.ref (h 2), .int 0, .ref (h 3), .ref (h 4), .int 0, .ref (h 5), .int 0, .ref (h 6), .int 0, .ref (h 7), .int 0])), ((h 3), .inl ((cs 9), 10, .inr (.inr (.inr (.inr (fun _ => none))))))] sz)) 2 12 (va_A [((h 0), .inr (11, [.ref (h 1), .ref (h 9), .int 0, .int 0, .ref (h 20), .ref (h 37), .int 0, .ref (h 38), .ref (h 42), .ref (h 43), .ref (h 44), .ref (h 45), .ref (h 46), .ref (h 47), .ref (h 48)])), ((h 1), .inr (8, [.ref (h 2), .int 0, .ref (h 3), .ref (h 4), .int 0, .ref (h 5), .int 0, .ref (h 6), .int 0, .ref (h 7), .int 0])), ((h 3), .inl ((cs 9), 10, .inr (.inr (.inr (.inr (fun _ => none))))))] sz) := by
  refine vx_ofW (cc := cX11_areSame) (maxL := 5) (ret := (some .boolean)) (by decide) rfl ?_
  intro p e s m args below meth c s₁ B hml hexc hv
  obtain ⟨rfl, hEx, hsz, hP, hK, hD0⟩ := hv
  have hx := B.exec
  have hb := B.bytes
  have hr := B.returns
  have hts := atoms_spec (ws := (.code yX11_areSame cX11_areSame 5 (some .boolean) :: zT)) B.pre
  have ht : ∀ w ∈ zT, w.before _ s = true := fun w h => hts w (List.mem_cons_of_mem _ h)
  have hown : s.vm.findClass RX11 = some m.cls := findClass_of_methodNamed B.named
  have hlocks := B.notSynchronized
  subst hsz
  have hD := hD0.self (sz := s.heap.size)
  generalize hAe : va_A [((h 0), .inr (11, [.ref (h 1), .ref (h 9), .int 0, .int 0, .ref (h 20), .ref (h 37), .int 0, .ref (h 38), .ref (h 42), .ref (h 43), .ref (h 44), .ref (h 45), .ref (h 46), .ref (h 47), .ref (h 48)])), ((h 1), .inr (8, [.ref (h 2), .int 0, .ref (h 3), .ref (h 4), .int 0, .ref (h 5), .int 0, .ref (h 6), .int 0, .ref (h 7), .int 0])), ((h 3), .inl ((cs 9), 10, .inr (.inr (.inr (.inr (fun _ => none))))))] s.heap.size = A at hD hEx ⊢
  have hA : ∀ q : Nat, s.heap.size ≤ q → A q := fun q h => by rw [← hAe]; exact Or.inr h
  have hS : va_S A s.heap s.heap [] := va_S.rf
  have hP : va_P D vwCl [((h 0), .inr (11, [.ref (h 1), .ref (h 9), .int 0, .int 0, .ref (h 20), .ref (h 37), .int 0, .ref (h 38), .ref (h 42), .ref (h 43), .ref (h 44), .ref (h 45), .ref (h 46), .ref (h 47), .ref (h 48)])), ((h 1), .inr (8, [.ref (h 2), .int 0, .ref (h 3), .ref (h 4), .int 0, .ref (h 5), .int 0, .ref (h 6), .int 0, .ref (h 7), .int 0])), ((h 3), .inl ((cs 9), 10, .inr (.inr (.inr (.inr (fun _ => none))))))] s.heap := hP
  have hl := lv_entry ([.ref (h 0), .int p0, .int p1]) (n := 5) (Nat.le_of_ble_eq_true rfl)
  rw [lg_entry_eq]
  generalize (lg_sl ([.ref (h 0), .int p0, .int p1]) ++ List.replicate (5 - (lg_sl ([.ref (h 0), .int p0, .int p1])).length) Slot.unset).toArray = ls at hl ⊢
  have hl : lv_has ls 5 [(0, .ref (h 0)), (1, .int p0), (2, .int p1)] := hl
  skip
  refine lv_iload_n hx hb dX11_areSame_0 rfl (lv_at hl 1 rfl) ?_
  refine lv_bipush (v := 10) hx hb dX11_areSame_1 (by decide) ?_
  have hPc := hP.sub (ws' := []) [] rfl
  have hDc := hD.sub (ws' := []) [] (by decide) rfl
  have hKc := hK.sub (tys' := []) [] rfl
  have hFc := va_free (wc := []) hD hS hA [] rfl
  refine vx_callv (vx_runS (As := [.int p0, .int 10]) (rest := []) ⟨hx, hb, hml, hown, ht⟩ (k_X11_checkIndex l hl0 _ D p0 10) (va_cwS 2 ht (zG_S zw_402 zw_403 zw_404 zw_405) rfl rfl rfl (by decide +kernel) ⟨Nat.le_of_ble_eq_true rfl, Nat.le_of_ble_eq_true rfl⟩) (zW_S hEx hS hFc hPc hKc hDc) rfl rfl hl.1 rfl (lv_room (Nat.le_of_ble_eq_true rfl)) dX11_areSame_3 ⟨Nat.le_of_ble_eq_true rfl, Nat.le_of_ble_eq_true rfl⟩) hS (fun q _ h => hFc q h) hFc (fun q _ h => hFc q h) (fun E ce q9 uu t H1 locs1 ht0 hvm hpx hB hz1 hk1 hS hcell hv hcl => ?_) (fun u_1 t H1 locs ht0 hvm hw_1 hB hz1 hk1 hS => ?_)
  · exact vx_out (fun x hx => (hexc x hx).elim) hlocks hcell hv hcl (fun t2 h2 hv2 => ⟨(), trivial, (by obtain ⟨hE, hb9⟩ := hB; (try simp only [Int32.reduceToInt] at hb9); exact ⟨hE, (show zS_areSame p0 p1 1 0 from (.inl ⟨rfl, by omega⟩))⟩), hS.F h2⟩) hS.2.2 (Nat.le_of_ble_eq_true rfl) (Nat.le_of_ble_eq_true rfl)
  obtain ⟨hP1, hK1, hD1⟩ := hB
  rw [ht0] at hP1
  have hK1 := va_K.moved hvm.symm hK1
  obtain ⟨hP, hD⟩ := va_join (wr := [((h 0), .inr (11, [.ref (h 1), .ref (h 9), .int 0, .int 0, .ref (h 20), .ref (h 37), .int 0, .ref (h 38), .ref (h 42), .ref (h 43), .ref (h 44), .ref (h 45), .ref (h 46), .ref (h 47), .ref (h 48)])), ((h 1), .inr (8, [.ref (h 2), .int 0, .ref (h 3), .ref (h 4), .int 0, .ref (h 5), .int 0, .ref (h 6), .int 0, .ref (h 7), .int 0])), ((h 3), .inl ((cs 9), 10, .inr (.inr (.inr (.inr (fun _ => none))))))]) (w1 := []) hP hD [] [0, 1, 2] rfl rfl (by decide) (by decide) hk1 hFc hP1 hD1
  generalize H1 = H at hP hS ⊢
  have hP : va_P D vwCl [((h 0), .inr (11, [.ref (h 1), .ref (h 9), .int 0, .int 0, .ref (h 20), .ref (h 37), .int 0, .ref (h 38), .ref (h 42), .ref (h 43), .ref (h 44), .ref (h 45), .ref (h 46), .ref (h 47), .ref (h 48)])), ((h 1), .inr (8, [.ref (h 2), .int 0, .ref (h 3), .ref (h 4), .int 0, .ref (h 5), .int 0, .ref (h 6), .int 0, .ref (h 7), .int 0])), ((h 3), .inl ((cs 9), 10, .inr (.inr (.inr (.inr (fun _ => none))))))] H := hP
  have hD : va_D A [((h 0), .inr (11, [.ref (h 1), .ref (h 9), .int 0, .int 0, .ref (h 20), .ref (h 37), .int 0, .ref (h 38), .ref (h 42), .ref (h 43), .ref (h 44), .ref (h 45), .ref (h 46), .ref (h 47), .ref (h 48)])), ((h 1), .inr (8, [.ref (h 2), .int 0, .ref (h 3), .ref (h 4), .int 0, .ref (h 5), .int 0, .ref (h 6), .int 0, .ref (h 7), .int 0])), ((h 3), .inl ((cs 9), 10, .inr (.inr (.inr (.inr (fun _ => none))))))] := hD
  refine W.widen (k := 1) (n := 6) (Nat.le_of_ble_eq_true rfl) (Nat.le_of_ble_eq_true rfl) ?_
  simp only [Int32.reduceToInt] at hw_1
  refine lv_iload_n hx hb dX11_areSame_6 rfl (lv_at hl 2 rfl) ?_
  refine lv_bipush (v := 10) hx hb dX11_areSame_7 (by decide) ?_
  have hPc := hP.sub (ws' := []) [] rfl
  have hDc := hD.sub (ws' := []) [] (by decide) rfl
  have hKc := hK.sub (tys' := []) [] rfl
  have hFc := va_free (wc := []) hD hS hA [] rfl
  refine vx_callv (vx_runS (As := [.int p1, .int 10]) (rest := []) ⟨hx, hb, hml, hown, ht⟩ (k_X11_checkIndex l hl0 _ D p1 10) (va_cwS 2 ht (zG_S zw_402 zw_403 zw_404 zw_405) rfl rfl rfl (by decide +kernel) ⟨Nat.le_of_ble_eq_true rfl, Nat.le_of_ble_eq_true rfl⟩) (zW_S hEx hS hFc hPc hKc hDc) rfl rfl hl.1 rfl (lv_room (Nat.le_of_ble_eq_true rfl)) dX11_areSame_9 ⟨Nat.le_of_ble_eq_true rfl, Nat.le_of_ble_eq_true rfl⟩) hS (fun q _ h => hFc q h) hFc (fun q _ h => hFc q h) (fun E ce q9 uu t H1 locs1 ht0 hvm hpx hB hz1 hk1 hS hcell hv hcl => ?_) (fun u_2 t H1 locs ht0 hvm hw_2 hB hz1 hk1 hS => ?_)
  · exact vx_out (fun x hx => (hexc x hx).elim) hlocks hcell hv hcl (fun t2 h2 hv2 => ⟨(), trivial, (by obtain ⟨hE, hb9⟩ := hB; (try simp only [Int32.reduceToInt] at hb9); exact ⟨hE, (show zS_areSame p0 p1 1 0 from (.inl ⟨rfl, by omega⟩))⟩), hS.F h2⟩) hS.2.2 (Nat.le_of_ble_eq_true rfl) (Nat.le_of_ble_eq_true rfl)
  obtain ⟨hP1, hK1, hD1⟩ := hB
  rw [ht0] at hP1
  have hK1 := va_K.moved hvm.symm hK1
  obtain ⟨hP, hD⟩ := va_join (wr := [((h 0), .inr (11, [.ref (h 1), .ref (h 9), .int 0, .int 0, .ref (h 20), .ref (h 37), .int 0, .ref (h 38), .ref (h 42), .ref (h 43), .ref (h 44), .ref (h 45), .ref (h 46), .ref (h 47), .ref (h 48)])), ((h 1), .inr (8, [.ref (h 2), .int 0, .ref (h 3), .ref (h 4), .int 0, .ref (h 5), .int 0, .ref (h 6), .int 0, .ref (h 7), .int 0])), ((h 3), .inl ((cs 9), 10, .inr (.inr (.inr (.inr (fun _ => none))))))]) (w1 := []) hP hD [] [0, 1, 2] rfl rfl (by decide) (by decide) hk1 hFc hP1 hD1
  generalize H1 = H at hP hS ⊢
  have hP : va_P D vwCl [((h 0), .inr (11, [.ref (h 1), .ref (h 9), .int 0, .int 0, .ref (h 20), .ref (h 37), .int 0, .ref (h 38), .ref (h 42), .ref (h 43), .ref (h 44), .ref (h 45), .ref (h 46), .ref (h 47), .ref (h 48)])), ((h 1), .inr (8, [.ref (h 2), .int 0, .ref (h 3), .ref (h 4), .int 0, .ref (h 5), .int 0, .ref (h 6), .int 0, .ref (h 7), .int 0])), ((h 3), .inl ((cs 9), 10, .inr (.inr (.inr (.inr (fun _ => none))))))] H := hP
  have hD : va_D A [((h 0), .inr (11, [.ref (h 1), .ref (h 9), .int 0, .int 0, .ref (h 20), .ref (h 37), .int 0, .ref (h 38), .ref (h 42), .ref (h 43), .ref (h 44), .ref (h 45), .ref (h 46), .ref (h 47), .ref (h 48)])), ((h 1), .inr (8, [.ref (h 2), .int 0, .ref (h 3), .ref (h 4), .int 0, .ref (h 5), .int 0, .ref (h 6), .int 0, .ref (h 7), .int 0])), ((h 3), .inl ((cs 9), 10, .inr (.inr (.inr (.inr (fun _ => none))))))] := hD
  refine W.widen (k := 2) (n := 12) (Nat.le_of_ble_eq_true rfl) (Nat.le_of_ble_eq_true rfl) ?_
  simp only [Int32.reduceToInt] at hw_2
  refine lv_aload_n hx hb dX11_areSame_12 rfl (lv_at hl 0 rfl) ?_
  refine va_get (D := D) (ci := 11) (v := .ref (h 1)) (C := RX11) (T := TX11) (N := 15) hx hb ht zinX11 hown hK hP 0 rfl rfl 0 (by decide) (ht _ zw_353) (fun _ h9 => h9) rfl dX11_areSame_13 ?_
  refine va_get (D := D) (ci := 8) (v := .ref (h 3)) (C := RX8) (T := TX8) (N := 11) hx hb ht zinX8 hown hK hP 1 rfl rfl 2 (by decide) (ht _ zw_391) (fun _ h9 => h9) rfl dX11_areSame_16 ?_
  refine lv_iload_n hx hb dX11_areSame_19 rfl (lv_at hl 1 rfl) ?_
  refine va_aldq hx hb hK hP 2 0 rfl rfl (vp_in_iff.mpr ⟨hw_1.1, by have hq := hw_1.2; omega⟩) dX11_areSame_20 ?_
  refine W.eq (g2 := F0 m 21 ls (.null :: [])) rfl ?_
  refine lv_astore_nN (lv' := [(3, .null), (0, .ref (h 0)), (1, .int p0), (2, .int p1)]) hx hb dX11_areSame_21 rfl hl (by decide) rfl (fun ls hl => ?_)
  refine lv_aload_n hx hb dX11_areSame_22 rfl (lv_at hl 1 rfl) ?_
  refine va_get (D := D) (ci := 11) (v := .ref (h 1)) (C := RX11) (T := TX11) (N := 15) hx hb ht zinX11 hown hK hP 0 rfl rfl 0 (by decide) (ht _ zw_353) (fun _ h9 => h9) rfl dX11_areSame_23 ?_
  refine va_get (D := D) (ci := 8) (v := .ref (h 3)) (C := RX8) (T := TX8) (N := 11) hx hb ht zinX8 hown hK hP 1 rfl rfl 2 (by decide) (ht _ zw_391) (fun _ h9 => h9) rfl dX11_areSame_26 ?_
  refine lv_iload_n hx hb dX11_areSame_29 rfl (lv_at hl 3 rfl) ?_
  refine va_aldq hx hb hK hP 2 0 rfl rfl (vp_in_iff.mpr ⟨hw_2.1, by have hq := hw_2.2; omega⟩) dX11_areSame_30 ?_
  refine W.eq (g2 := F0 m 31 ls (.null :: [])) rfl ?_
  refine lv_astoreN (lv' := [(4, .null), (3, .null), (0, .ref (h 0)), (1, .int p0), (2, .int p1)]) hx hb dX11_areSame_31 hl (by decide) rfl (fun ls hl => ?_)
  refine lv_aload_nN hx hb dX11_areSame_33 rfl (lv_at hl 1 rfl) ?_
  refine lv_ifnullN (tgt := 55) hx hb dX11_areSame_34 (by decide) ?_
  refine lv_iconst (v := 0) hx hb dX11_areSame_55 (by decide) ?_
  have hP9 := hP.sub (ws' := []) [] rfl
  have hD9 := hD.sub (ws' := []) [] (by decide) rfl
  have hK9 := hK.sub (tys' := []) [] rfl
  refine W.widen (k := 2) (n := 12) (Nat.le_of_ble_eq_true rfl) (Nat.le_of_ble_eq_true rfl) ?_
  refine vx_ret ?_
  exact W.zret (v := 0) hx hb hr rfl (fun t ht0 hW => ⟨⟨0, (), rfl, (show zS_areSame p0 p1 0 0 from (.inr ⟨rfl, by omega, rfl⟩)), (zE_of hP9 hK9 hD9 ht0 hW)⟩, hS.F ht0⟩) hS.2.2 dX11_areSame_56
set_option maxHeartbeats 4000000 in
set_option maxRecDepth 100000 in
theorem k_X11_find (l : Launch) (hl0 : l.stackTraces = false) (sz : Nat) (D : va_G) (h cs : Nat → Nat) (p0 p1 p2 p3 p4 : Int32) : vx_Met l yX11_find (.code yX11_find cX11_find 7 (some .int) :: zT) ({ frames := 7, cells := 6, slots := 36, locals := 112 }) (va_Pc [.ref (h 0), .int p0, .int p1, .int p2, .int p3, .int p4] (zW D [((h 0), .inr (11, [.ref (h 1), .ref (h 9), .int 0, .int 0, .ref (h 20), .ref (h 37), .int 0, .ref (h 38), .ref (h 42), .ref (h 43), .ref (h 44), .ref (h 45), .ref (h 46), .ref (h 47), .ref (h 48)])), ((h 1), .inr (8, [.ref (h 2), .int 0, .ref (h 3), .ref (h 4), .int 0, .ref (h 5), .int 0, .ref (h 6), .int 0, .ref (h 7), .int 0])), ((h 3), .inl ((cs 9), 10, .inr (.inr (.inr (.inr (fun _ => none))))))] [((cs 9), .object RX9)] sz)) (va_Qi (fun (r : Int32) (_ : Unit) => zS_find p0 p1 p2 p3 p4 0 r) (fun _ t => zE D [] [] (va_A [((h 0), .inr (11, [.ref (h 1), .ref (h 9), .int 0, .int 0, .ref (h 20), .ref (h 37), .int 0, .ref (h 38), .ref (h 42), .ref (h 43), .ref (h 44), .ref (h 45), .ref (h 46), .ref (h 47), .ref (h 48)])), ((h 1), .inr (8, [.ref (h 2), .int 0, .ref (h 3), .ref (h 4), .int 0, .ref (h 5), .int 0, .ref (h 6), .int 0, .ref (h 7), .int 0])), ((h 3), .inl ((cs 9), 10, .inr (.inr (.inr (.inr (fun _ => none))))))] sz) t) (va_A [((h 0), .inr (11, [.ref (h 1), .ref (h 9), .int 0, .int 0, .ref (h 20), .ref (h 37), .int 0, .ref (h 38), .ref (h 42), .ref (h 43), .ref (h 44), .ref (h 45), .ref (h 46), .ref (h 47), .ref (h 48)])), ((h 1), .inr (8, [.ref (h 2), .int 0, .ref (h 3), .ref (h 4), .int 0, .ref (h 5), .int 0, .ref (h 6), .int 0, .ref (h 7), .int 0])), ((h 3), .inl ((cs 9), 10, .inr (.inr (.inr (.inr (fun _ => none))))))] sz)) (vx_X (fun _ : Unit => True) (fun E _ _ => (E = "java/lang/IndexOutOfBoundsException" ∧ zS_find p0 p1 p2 p3 p4 1 0) ∨ (E = "java/lang/IllegalArgumentException" ∧ zS_find p0 p1 p2 p3 p4 2 0) ∨ (E = "java/lang/IllegalStateException" ∧ zS_find p0 p1 p2 p3 p4 3 0)) (va_A [((h 0), .inr (11, [.ref (h 1), .ref (h 9), .int 0, .int 0, .ref (h 20), .ref (h 37), .int 0, .ref (h 38), .ref (h 42), .ref (h 43), .ref (h 44), .ref (h 45), .ref (h 46), .ref (h 47), .ref (h 48)])), ((h 1), .inr (8, [.ref (h 2), .int 0, .ref (h 3), .ref (h 4), .int 0, .ref (h 5), .int 0, .ref (h 6), .int 0, .ref (h 7), .int 0])), ((h 3), .inl ((cs 9), 10, .inr (.inr (.inr (.inr (fun _ => none))))))] sz)) 6 36 (va_A [((h 0), .inr (11, [.ref (h 1), .ref (h 9), .int 0, .int 0, .ref (h 20), .ref (h 37), .int 0, .ref (h 38), .ref (h 42), .ref (h 43), .ref (h 44), .ref (h 45), .ref (h 46), .ref (h 47), .ref (h 48)])), ((h 1), .inr (8, [.ref (h 2), .int 0, .ref (h 3), .ref (h 4), .int 0, .ref (h 5), .int 0, .ref (h 6), .int 0, .ref (h 7), .int 0])), ((h 3), .inl ((cs 9), 10, .inr (.inr (.inr (.inr (fun _ => none))))))] sz) := by
  refine vx_ofW (cc := cX11_find) (maxL := 7) (ret := (some .int)) (by decide) rfl ?_
  intro p e s m args below meth c s₁ B hml hexc hv
  obtain ⟨rfl, hEx, hsz, hP, hK, hD0⟩ := hv
  have hx := B.exec
  have hb := B.bytes
  have hr := B.returns
  have hts := atoms_spec (ws := (.code yX11_find cX11_find 7 (some .int) :: zT)) B.pre
  have ht : ∀ w ∈ zT, w.before _ s = true := fun w h => hts w (List.mem_cons_of_mem _ h)
  have hown : s.vm.findClass RX11 = some m.cls := findClass_of_methodNamed B.named
  have hlocks := B.notSynchronized
  subst hsz
  have hD := hD0.self (sz := s.heap.size)
  generalize hAe : va_A [((h 0), .inr (11, [.ref (h 1), .ref (h 9), .int 0, .int 0, .ref (h 20), .ref (h 37), .int 0, .ref (h 38), .ref (h 42), .ref (h 43), .ref (h 44), .ref (h 45), .ref (h 46), .ref (h 47), .ref (h 48)])), ((h 1), .inr (8, [.ref (h 2), .int 0, .ref (h 3), .ref (h 4), .int 0, .ref (h 5), .int 0, .ref (h 6), .int 0, .ref (h 7), .int 0])), ((h 3), .inl ((cs 9), 10, .inr (.inr (.inr (.inr (fun _ => none))))))] s.heap.size = A at hD hEx ⊢
  have hA : ∀ q : Nat, s.heap.size ≤ q → A q := fun q h => by rw [← hAe]; exact Or.inr h
  have hS : va_S A s.heap s.heap [] := va_S.rf
  have hP : va_P D vwCl [((h 0), .inr (11, [.ref (h 1), .ref (h 9), .int 0, .int 0, .ref (h 20), .ref (h 37), .int 0, .ref (h 38), .ref (h 42), .ref (h 43), .ref (h 44), .ref (h 45), .ref (h 46), .ref (h 47), .ref (h 48)])), ((h 1), .inr (8, [.ref (h 2), .int 0, .ref (h 3), .ref (h 4), .int 0, .ref (h 5), .int 0, .ref (h 6), .int 0, .ref (h 7), .int 0])), ((h 3), .inl ((cs 9), 10, .inr (.inr (.inr (.inr (fun _ => none))))))] s.heap := hP
  have hl := lv_entry ([.ref (h 0), .int p0, .int p1, .int p2, .int p3, .int p4]) (n := 7) (Nat.le_of_ble_eq_true rfl)
  rw [lg_entry_eq]
  generalize (lg_sl ([.ref (h 0), .int p0, .int p1, .int p2, .int p3, .int p4]) ++ List.replicate (7 - (lg_sl ([.ref (h 0), .int p0, .int p1, .int p2, .int p3, .int p4])).length) Slot.unset).toArray = ls at hl ⊢
  have hl : lv_has ls 7 [(0, .ref (h 0)), (1, .int p0), (2, .int p1), (3, .int p2), (4, .int p3), (5, .int p4)] := hl
  skip
  refine lv_iload_n hx hb dX11_find_0 rfl (lv_at hl 1 rfl) ?_
  refine lv_iconst (v := 4) hx hb dX11_find_1 (by decide) ?_
  have hPc := hP.sub (ws' := []) [] rfl
  have hDc := hD.sub (ws' := []) [] (by decide) rfl
  have hKc := hK.sub (tys' := []) [] rfl
  have hFc := va_free (wc := []) hD hS hA [] rfl
  refine vx_callv (vx_runS (As := [.int p0, .int 4]) (rest := []) ⟨hx, hb, hml, hown, ht⟩ (k_X11_checkIndex l hl0 _ D p0 4) (va_cwS 2 ht (zG_S zw_402 zw_403 zw_404 zw_405) rfl rfl rfl (by decide +kernel) ⟨Nat.le_of_ble_eq_true rfl, Nat.le_of_ble_eq_true rfl⟩) (zW_S hEx hS hFc hPc hKc hDc) rfl rfl hl.1 rfl (lv_room (Nat.le_of_ble_eq_true rfl)) dX11_find_2 ⟨Nat.le_of_ble_eq_true rfl, Nat.le_of_ble_eq_true rfl⟩) hS (fun q _ h => hFc q h) hFc (fun q _ h => hFc q h) (fun E ce q9 uu t H1 locs1 ht0 hvm hpx hB hz1 hk1 hS hcell hv hcl => ?_) (fun u_1 t H1 locs ht0 hvm hw_1 hB hz1 hk1 hS => ?_)
  · exact vx_out (fun x hx => (hexc x hx).elim) hlocks hcell hv hcl (fun t2 h2 hv2 => ⟨(), trivial, (by obtain ⟨hE, hb9⟩ := hB; (try simp only [Int32.reduceToInt] at hb9); exact .inl ⟨hE, (show zS_find p0 p1 p2 p3 p4 1 0 from (.inl ⟨rfl, by omega⟩))⟩), hS.F h2⟩) hS.2.2 (Nat.le_of_ble_eq_true rfl) (Nat.le_of_ble_eq_true rfl)
  obtain ⟨hP1, hK1, hD1⟩ := hB
  rw [ht0] at hP1
  have hK1 := va_K.moved hvm.symm hK1
  obtain ⟨hP, hD⟩ := va_join (wr := [((h 0), .inr (11, [.ref (h 1), .ref (h 9), .int 0, .int 0, .ref (h 20), .ref (h 37), .int 0, .ref (h 38), .ref (h 42), .ref (h 43), .ref (h 44), .ref (h 45), .ref (h 46), .ref (h 47), .ref (h 48)])), ((h 1), .inr (8, [.ref (h 2), .int 0, .ref (h 3), .ref (h 4), .int 0, .ref (h 5), .int 0, .ref (h 6), .int 0, .ref (h 7), .int 0])), ((h 3), .inl ((cs 9), 10, .inr (.inr (.inr (.inr (fun _ => none))))))]) (w1 := []) hP hD [] [0, 1, 2] rfl rfl (by decide) (by decide) hk1 hFc hP1 hD1
  generalize H1 = H at hP hS ⊢
  have hP : va_P D vwCl [((h 0), .inr (11, [.ref (h 1), .ref (h 9), .int 0, .int 0, .ref (h 20), .ref (h 37), .int 0, .ref (h 38), .ref (h 42), .ref (h 43), .ref (h 44), .ref (h 45), .ref (h 46), .ref (h 47), .ref (h 48)])), ((h 1), .inr (8, [.ref (h 2), .int 0, .ref (h 3), .ref (h 4), .int 0, .ref (h 5), .int 0, .ref (h 6), .int 0, .ref (h 7), .int 0])), ((h 3), .inl ((cs 9), 10, .inr (.inr (.inr (.inr (fun _ => none))))))] H := hP
  have hD : va_D A [((h 0), .inr (11, [.ref (h 1), .ref (h 9), .int 0, .int 0, .ref (h 20), .ref (h 37), .int 0, .ref (h 38), .ref (h 42), .ref (h 43), .ref (h 44), .ref (h 45), .ref (h 46), .ref (h 47), .ref (h 48)])), ((h 1), .inr (8, [.ref (h 2), .int 0, .ref (h 3), .ref (h 4), .int 0, .ref (h 5), .int 0, .ref (h 6), .int 0, .ref (h 7), .int 0])), ((h 3), .inl ((cs 9), 10, .inr (.inr (.inr (.inr (fun _ => none))))))] := hD
  refine W.widen (k := 1) (n := 6) (Nat.le_of_ble_eq_true rfl) (Nat.le_of_ble_eq_true rfl) ?_
  simp only [Int32.reduceToInt] at hw_1
  refine lv_iload_n hx hb dX11_find_5 rfl (lv_at hl 2 rfl) ?_
  refine lv_bipush (v := 10) hx hb dX11_find_6 (by decide) ?_
  have hPc := hP.sub (ws' := []) [] rfl
  have hDc := hD.sub (ws' := []) [] (by decide) rfl
  have hKc := hK.sub (tys' := []) [] rfl
  have hFc := va_free (wc := []) hD hS hA [] rfl
  refine vx_callv (vx_runS (As := [.int p1, .int 10]) (rest := []) ⟨hx, hb, hml, hown, ht⟩ (k_X11_checkIndex l hl0 _ D p1 10) (va_cwS 2 ht (zG_S zw_402 zw_403 zw_404 zw_405) rfl rfl rfl (by decide +kernel) ⟨Nat.le_of_ble_eq_true rfl, Nat.le_of_ble_eq_true rfl⟩) (zW_S hEx hS hFc hPc hKc hDc) rfl rfl hl.1 rfl (lv_room (Nat.le_of_ble_eq_true rfl)) dX11_find_8 ⟨Nat.le_of_ble_eq_true rfl, Nat.le_of_ble_eq_true rfl⟩) hS (fun q _ h => hFc q h) hFc (fun q _ h => hFc q h) (fun E ce q9 uu t H1 locs1 ht0 hvm hpx hB hz1 hk1 hS hcell hv hcl => ?_) (fun u_2 t H1 locs ht0 hvm hw_2 hB hz1 hk1 hS => ?_)
  · exact vx_out (fun x hx => (hexc x hx).elim) hlocks hcell hv hcl (fun t2 h2 hv2 => ⟨(), trivial, (by obtain ⟨hE, hb9⟩ := hB; (try simp only [Int32.reduceToInt] at hb9); exact .inl ⟨hE, (show zS_find p0 p1 p2 p3 p4 1 0 from (.inl ⟨rfl, by omega⟩))⟩), hS.F h2⟩) hS.2.2 (Nat.le_of_ble_eq_true rfl) (Nat.le_of_ble_eq_true rfl)
  obtain ⟨hP1, hK1, hD1⟩ := hB
  rw [ht0] at hP1
  have hK1 := va_K.moved hvm.symm hK1
  obtain ⟨hP, hD⟩ := va_join (wr := [((h 0), .inr (11, [.ref (h 1), .ref (h 9), .int 0, .int 0, .ref (h 20), .ref (h 37), .int 0, .ref (h 38), .ref (h 42), .ref (h 43), .ref (h 44), .ref (h 45), .ref (h 46), .ref (h 47), .ref (h 48)])), ((h 1), .inr (8, [.ref (h 2), .int 0, .ref (h 3), .ref (h 4), .int 0, .ref (h 5), .int 0, .ref (h 6), .int 0, .ref (h 7), .int 0])), ((h 3), .inl ((cs 9), 10, .inr (.inr (.inr (.inr (fun _ => none))))))]) (w1 := []) hP hD [] [0, 1, 2] rfl rfl (by decide) (by decide) hk1 hFc hP1 hD1
  generalize H1 = H at hP hS ⊢
  have hP : va_P D vwCl [((h 0), .inr (11, [.ref (h 1), .ref (h 9), .int 0, .int 0, .ref (h 20), .ref (h 37), .int 0, .ref (h 38), .ref (h 42), .ref (h 43), .ref (h 44), .ref (h 45), .ref (h 46), .ref (h 47), .ref (h 48)])), ((h 1), .inr (8, [.ref (h 2), .int 0, .ref (h 3), .ref (h 4), .int 0, .ref (h 5), .int 0, .ref (h 6), .int 0, .ref (h 7), .int 0])), ((h 3), .inl ((cs 9), 10, .inr (.inr (.inr (.inr (fun _ => none))))))] H := hP
  have hD : va_D A [((h 0), .inr (11, [.ref (h 1), .ref (h 9), .int 0, .int 0, .ref (h 20), .ref (h 37), .int 0, .ref (h 38), .ref (h 42), .ref (h 43), .ref (h 44), .ref (h 45), .ref (h 46), .ref (h 47), .ref (h 48)])), ((h 1), .inr (8, [.ref (h 2), .int 0, .ref (h 3), .ref (h 4), .int 0, .ref (h 5), .int 0, .ref (h 6), .int 0, .ref (h 7), .int 0])), ((h 3), .inl ((cs 9), 10, .inr (.inr (.inr (.inr (fun _ => none))))))] := hD
  refine W.widen (k := 2) (n := 12) (Nat.le_of_ble_eq_true rfl) (Nat.le_of_ble_eq_true rfl) ?_
  simp only [Int32.reduceToInt] at hw_2
  refine lv_iload_n hx hb dX11_find_11 rfl (lv_at hl 3 rfl) ?_
  refine lv_bipush (v := 10) hx hb dX11_find_12 (by decide) ?_
  have hPc := hP.sub (ws' := []) [] rfl
  have hDc := hD.sub (ws' := []) [] (by decide) rfl
  have hKc := hK.sub (tys' := []) [] rfl
  have hFc := va_free (wc := []) hD hS hA [] rfl
  refine vx_callv (vx_runS (As := [.int p2, .int 10]) (rest := []) ⟨hx, hb, hml, hown, ht⟩ (k_X11_checkIndex l hl0 _ D p2 10) (va_cwS 2 ht (zG_S zw_402 zw_403 zw_404 zw_405) rfl rfl rfl (by decide +kernel) ⟨Nat.le_of_ble_eq_true rfl, Nat.le_of_ble_eq_true rfl⟩) (zW_S hEx hS hFc hPc hKc hDc) rfl rfl hl.1 rfl (lv_room (Nat.le_of_ble_eq_true rfl)) dX11_find_14 ⟨Nat.le_of_ble_eq_true rfl, Nat.le_of_ble_eq_true rfl⟩) hS (fun q _ h => hFc q h) hFc (fun q _ h => hFc q h) (fun E ce q9 uu t H1 locs1 ht0 hvm hpx hB hz1 hk1 hS hcell hv hcl => ?_) (fun u_3 t H1 locs ht0 hvm hw_3 hB hz1 hk1 hS => ?_)
  · exact vx_out (fun x hx => (hexc x hx).elim) hlocks hcell hv hcl (fun t2 h2 hv2 => ⟨(), trivial, (by obtain ⟨hE, hb9⟩ := hB; (try simp only [Int32.reduceToInt] at hb9); exact .inl ⟨hE, (show zS_find p0 p1 p2 p3 p4 1 0 from (.inl ⟨rfl, by omega⟩))⟩), hS.F h2⟩) hS.2.2 (Nat.le_of_ble_eq_true rfl) (Nat.le_of_ble_eq_true rfl)
  obtain ⟨hP1, hK1, hD1⟩ := hB
  rw [ht0] at hP1
  have hK1 := va_K.moved hvm.symm hK1
  obtain ⟨hP, hD⟩ := va_join (wr := [((h 0), .inr (11, [.ref (h 1), .ref (h 9), .int 0, .int 0, .ref (h 20), .ref (h 37), .int 0, .ref (h 38), .ref (h 42), .ref (h 43), .ref (h 44), .ref (h 45), .ref (h 46), .ref (h 47), .ref (h 48)])), ((h 1), .inr (8, [.ref (h 2), .int 0, .ref (h 3), .ref (h 4), .int 0, .ref (h 5), .int 0, .ref (h 6), .int 0, .ref (h 7), .int 0])), ((h 3), .inl ((cs 9), 10, .inr (.inr (.inr (.inr (fun _ => none))))))]) (w1 := []) hP hD [] [0, 1, 2] rfl rfl (by decide) (by decide) hk1 hFc hP1 hD1
  generalize H1 = H at hP hS ⊢
  have hP : va_P D vwCl [((h 0), .inr (11, [.ref (h 1), .ref (h 9), .int 0, .int 0, .ref (h 20), .ref (h 37), .int 0, .ref (h 38), .ref (h 42), .ref (h 43), .ref (h 44), .ref (h 45), .ref (h 46), .ref (h 47), .ref (h 48)])), ((h 1), .inr (8, [.ref (h 2), .int 0, .ref (h 3), .ref (h 4), .int 0, .ref (h 5), .int 0, .ref (h 6), .int 0, .ref (h 7), .int 0])), ((h 3), .inl ((cs 9), 10, .inr (.inr (.inr (.inr (fun _ => none))))))] H := hP
  have hD : va_D A [((h 0), .inr (11, [.ref (h 1), .ref (h 9), .int 0, .int 0, .ref (h 20), .ref (h 37), .int 0, .ref (h 38), .ref (h 42), .ref (h 43), .ref (h 44), .ref (h 45), .ref (h 46), .ref (h 47), .ref (h 48)])), ((h 1), .inr (8, [.ref (h 2), .int 0, .ref (h 3), .ref (h 4), .int 0, .ref (h 5), .int 0, .ref (h 6), .int 0, .ref (h 7), .int 0])), ((h 3), .inl ((cs 9), 10, .inr (.inr (.inr (.inr (fun _ => none))))))] := hD
  refine W.widen (k := 3) (n := 18) (Nat.le_of_ble_eq_true rfl) (Nat.le_of_ble_eq_true rfl) ?_
  simp only [Int32.reduceToInt] at hw_3
  refine lv_iload hx hb dX11_find_17 (lv_at hl 4 rfl) ?_
  refine lv_iconst (v := 2) hx hb dX11_find_19 (by decide) ?_
  have hPc := hP.sub (ws' := []) [] rfl
  have hDc := hD.sub (ws' := []) [] (by decide) rfl
  have hKc := hK.sub (tys' := []) [] rfl
  have hFc := va_free (wc := []) hD hS hA [] rfl
  refine vx_callv (vx_runS (As := [.int p3, .int 2]) (rest := []) ⟨hx, hb, hml, hown, ht⟩ (k_X11_checkNumber l hl0 _ D p3 2) (va_cwS 2 ht (zG_S zw_410 zw_411 zw_404 zw_412) rfl rfl rfl (by decide +kernel) ⟨Nat.le_of_ble_eq_true rfl, Nat.le_of_ble_eq_true rfl⟩) (zW_S hEx hS hFc hPc hKc hDc) rfl rfl hl.1 rfl (lv_room (Nat.le_of_ble_eq_true rfl)) dX11_find_20 ⟨Nat.le_of_ble_eq_true rfl, Nat.le_of_ble_eq_true rfl⟩) hS (fun q _ h => hFc q h) hFc (fun q _ h => hFc q h) (fun E ce q9 uu t H1 locs1 ht0 hvm hpx hB hz1 hk1 hS hcell hv hcl => ?_) (fun u_4 t H1 locs ht0 hvm hw_4 hB hz1 hk1 hS => ?_)
  · exact vx_out (fun x hx => (hexc x hx).elim) hlocks hcell hv hcl (fun t2 h2 hv2 => ⟨(), trivial, (by obtain ⟨hE, hb9⟩ := hB; (try simp only [Int32.reduceToInt] at hb9); exact .inr (.inl ⟨hE, (show zS_find p0 p1 p2 p3 p4 2 0 from (.inr (.inl ⟨rfl, by omega⟩)))⟩)), hS.F h2⟩) hS.2.2 (Nat.le_of_ble_eq_true rfl) (Nat.le_of_ble_eq_true rfl)
  obtain ⟨hP1, hK1, hD1⟩ := hB
  rw [ht0] at hP1
  have hK1 := va_K.moved hvm.symm hK1
  obtain ⟨hP, hD⟩ := va_join (wr := [((h 0), .inr (11, [.ref (h 1), .ref (h 9), .int 0, .int 0, .ref (h 20), .ref (h 37), .int 0, .ref (h 38), .ref (h 42), .ref (h 43), .ref (h 44), .ref (h 45), .ref (h 46), .ref (h 47), .ref (h 48)])), ((h 1), .inr (8, [.ref (h 2), .int 0, .ref (h 3), .ref (h 4), .int 0, .ref (h 5), .int 0, .ref (h 6), .int 0, .ref (h 7), .int 0])), ((h 3), .inl ((cs 9), 10, .inr (.inr (.inr (.inr (fun _ => none))))))]) (w1 := []) hP hD [] [0, 1, 2] rfl rfl (by decide) (by decide) hk1 hFc hP1 hD1
  generalize H1 = H at hP hS ⊢
  have hP : va_P D vwCl [((h 0), .inr (11, [.ref (h 1), .ref (h 9), .int 0, .int 0, .ref (h 20), .ref (h 37), .int 0, .ref (h 38), .ref (h 42), .ref (h 43), .ref (h 44), .ref (h 45), .ref (h 46), .ref (h 47), .ref (h 48)])), ((h 1), .inr (8, [.ref (h 2), .int 0, .ref (h 3), .ref (h 4), .int 0, .ref (h 5), .int 0, .ref (h 6), .int 0, .ref (h 7), .int 0])), ((h 3), .inl ((cs 9), 10, .inr (.inr (.inr (.inr (fun _ => none))))))] H := hP
  have hD : va_D A [((h 0), .inr (11, [.ref (h 1), .ref (h 9), .int 0, .int 0, .ref (h 20), .ref (h 37), .int 0, .ref (h 38), .ref (h 42), .ref (h 43), .ref (h 44), .ref (h 45), .ref (h 46), .ref (h 47), .ref (h 48)])), ((h 1), .inr (8, [.ref (h 2), .int 0, .ref (h 3), .ref (h 4), .int 0, .ref (h 5), .int 0, .ref (h 6), .int 0, .ref (h 7), .int 0])), ((h 3), .inl ((cs 9), 10, .inr (.inr (.inr (.inr (fun _ => none))))))] := hD
  refine W.widen (k := 4) (n := 24) (Nat.le_of_ble_eq_true rfl) (Nat.le_of_ble_eq_true rfl) ?_
  simp only [Int32.reduceToInt] at hw_4
  refine lv_iload hx hb dX11_find_23 (lv_at hl 5 rfl) ?_
  refine lv_iconst (v := 4) hx hb dX11_find_25 (by decide) ?_
  have hPc := hP.sub (ws' := []) [] rfl
  have hDc := hD.sub (ws' := []) [] (by decide) rfl
  have hKc := hK.sub (tys' := []) [] rfl
  have hFc := va_free (wc := []) hD hS hA [] rfl
  refine vx_callv (vx_runS (As := [.int p4, .int 4]) (rest := []) ⟨hx, hb, hml, hown, ht⟩ (k_X11_checkNumber l hl0 _ D p4 4) (va_cwS 2 ht (zG_S zw_410 zw_411 zw_404 zw_412) rfl rfl rfl (by decide +kernel) ⟨Nat.le_of_ble_eq_true rfl, Nat.le_of_ble_eq_true rfl⟩) (zW_S hEx hS hFc hPc hKc hDc) rfl rfl hl.1 rfl (lv_room (Nat.le_of_ble_eq_true rfl)) dX11_find_26 ⟨Nat.le_of_ble_eq_true rfl, Nat.le_of_ble_eq_true rfl⟩) hS (fun q _ h => hFc q h) hFc (fun q _ h => hFc q h) (fun E ce q9 uu t H1 locs1 ht0 hvm hpx hB hz1 hk1 hS hcell hv hcl => ?_) (fun u_5 t H1 locs ht0 hvm hw_5 hB hz1 hk1 hS => ?_)
  · exact vx_out (fun x hx => (hexc x hx).elim) hlocks hcell hv hcl (fun t2 h2 hv2 => ⟨(), trivial, (by obtain ⟨hE, hb9⟩ := hB; (try simp only [Int32.reduceToInt] at hb9); exact .inr (.inl ⟨hE, (show zS_find p0 p1 p2 p3 p4 2 0 from (.inr (.inl ⟨rfl, by omega⟩)))⟩)), hS.F h2⟩) hS.2.2 (Nat.le_of_ble_eq_true rfl) (Nat.le_of_ble_eq_true rfl)
  obtain ⟨hP1, hK1, hD1⟩ := hB
  rw [ht0] at hP1
  have hK1 := va_K.moved hvm.symm hK1
  obtain ⟨hP, hD⟩ := va_join (wr := [((h 0), .inr (11, [.ref (h 1), .ref (h 9), .int 0, .int 0, .ref (h 20), .ref (h 37), .int 0, .ref (h 38), .ref (h 42), .ref (h 43), .ref (h 44), .ref (h 45), .ref (h 46), .ref (h 47), .ref (h 48)])), ((h 1), .inr (8, [.ref (h 2), .int 0, .ref (h 3), .ref (h 4), .int 0, .ref (h 5), .int 0, .ref (h 6), .int 0, .ref (h 7), .int 0])), ((h 3), .inl ((cs 9), 10, .inr (.inr (.inr (.inr (fun _ => none))))))]) (w1 := []) hP hD [] [0, 1, 2] rfl rfl (by decide) (by decide) hk1 hFc hP1 hD1
  generalize H1 = H at hP hS ⊢
  have hP : va_P D vwCl [((h 0), .inr (11, [.ref (h 1), .ref (h 9), .int 0, .int 0, .ref (h 20), .ref (h 37), .int 0, .ref (h 38), .ref (h 42), .ref (h 43), .ref (h 44), .ref (h 45), .ref (h 46), .ref (h 47), .ref (h 48)])), ((h 1), .inr (8, [.ref (h 2), .int 0, .ref (h 3), .ref (h 4), .int 0, .ref (h 5), .int 0, .ref (h 6), .int 0, .ref (h 7), .int 0])), ((h 3), .inl ((cs 9), 10, .inr (.inr (.inr (.inr (fun _ => none))))))] H := hP
  have hD : va_D A [((h 0), .inr (11, [.ref (h 1), .ref (h 9), .int 0, .int 0, .ref (h 20), .ref (h 37), .int 0, .ref (h 38), .ref (h 42), .ref (h 43), .ref (h 44), .ref (h 45), .ref (h 46), .ref (h 47), .ref (h 48)])), ((h 1), .inr (8, [.ref (h 2), .int 0, .ref (h 3), .ref (h 4), .int 0, .ref (h 5), .int 0, .ref (h 6), .int 0, .ref (h 7), .int 0])), ((h 3), .inl ((cs 9), 10, .inr (.inr (.inr (.inr (fun _ => none))))))] := hD
  refine W.widen (k := 5) (n := 30) (Nat.le_of_ble_eq_true rfl) (Nat.le_of_ble_eq_true rfl) ?_
  simp only [Int32.reduceToInt] at hw_5
  refine lv_aload_n hx hb dX11_find_29 rfl (lv_at hl 0 rfl) ?_
  refine va_get (D := D) (ci := 11) (v := .ref (h 47)) (C := RX11) (T := TX11) (N := 15) hx hb ht zinX11 hown hK hP 0 rfl rfl 13 (by decide) (ht _ zw_384) (fun _ h9 => h9) rfl dX11_find_30 ?_
  refine lv_aload_n hx hb dX11_find_33 rfl (lv_at hl 0 rfl) ?_
  refine va_get (D := D) (ci := 11) (v := .ref (h 1)) (C := RX11) (T := TX11) (N := 15) hx hb ht zinX11 hown hK hP 0 rfl rfl 0 (by decide) (ht _ zw_353) (fun _ h9 => h9) rfl dX11_find_34 ?_
  refine lv_aload_n hx hb dX11_find_37 rfl (lv_at hl 0 rfl) ?_
  refine lv_iload_n hx hb dX11_find_38 rfl (lv_at hl 2 rfl) ?_
  have hPc := hP.sub (ws' := [((h 0), .inr (11, [.ref (h 1), .ref (h 9), .int 0, .int 0, .ref (h 20), .ref (h 37), .int 0, .ref (h 38), .ref (h 42), .ref (h 43), .ref (h 44), .ref (h 45), .ref (h 46), .ref (h 47), .ref (h 48)])), ((h 1), .inr (8, [.ref (h 2), .int 0, .ref (h 3), .ref (h 4), .int 0, .ref (h 5), .int 0, .ref (h 6), .int 0, .ref (h 7), .int 0])), ((h 3), .inl ((cs 9), 10, .inr (.inr (.inr (.inr (fun _ => none))))))]) [0, 1, 2] rfl
  have hDc := hD.sub (ws' := [((h 0), .inr (11, [.ref (h 1), .ref (h 9), .int 0, .int 0, .ref (h 20), .ref (h 37), .int 0, .ref (h 38), .ref (h 42), .ref (h 43), .ref (h 44), .ref (h 45), .ref (h 46), .ref (h 47), .ref (h 48)])), ((h 1), .inr (8, [.ref (h 2), .int 0, .ref (h 3), .ref (h 4), .int 0, .ref (h 5), .int 0, .ref (h 6), .int 0, .ref (h 7), .int 0])), ((h 3), .inl ((cs 9), 10, .inr (.inr (.inr (.inr (fun _ => none))))))]) [0, 1, 2] (by decide) rfl
  have hKc := hK.sub (tys' := [((cs 9), .object RX9)]) [0] rfl
  have hFc := va_free (wc := [((h 0), .inr (11, [.ref (h 1), .ref (h 9), .int 0, .int 0, .ref (h 20), .ref (h 37), .int 0, .ref (h 38), .ref (h 42), .ref (h 43), .ref (h 44), .ref (h 45), .ref (h 46), .ref (h 47), .ref (h 48)])), ((h 1), .inr (8, [.ref (h 2), .int 0, .ref (h 3), .ref (h 4), .int 0, .ref (h 5), .int 0, .ref (h 6), .int 0, .ref (h 7), .int 0])), ((h 3), .inl ((cs 9), 10, .inr (.inr (.inr (.inr (fun _ => none))))))]) hD hS hA [0, 1, 2] rfl
  refine vx_callq (vx_runV (As := [.int p1]) (rest := [.ref (h 1), .ref (h 47)]) ⟨hx, hb, hml, hown, ht⟩ (k_X11_filled l hl0 _ D h cs p1 hw_2) (cwV 1 ht (zG_V zw_406 zw_407 zw_408 zw_404 zw_409) rfl rfl rfl (by decide +kernel) ⟨Nat.le_of_ble_eq_true rfl, Nat.le_of_ble_eq_true rfl⟩) (zW_V (va_recv hK hP (ci := 11) (q0 := 0) rfl rfl) hEx hS hFc hPc hKc hDc) rfl rfl hl.1 rfl (lv_room (Nat.le_of_ble_eq_true rfl)) dX11_find_39 ⟨Nat.le_of_ble_eq_true rfl, Nat.le_of_ble_eq_true rfl⟩) hS (fun q _ h => hFc q h) hFc (fun q _ h => hFc q h) (fun E ce q9 uu t H1 locs1 ht0 hvm hpx hB hz1 hk1 hS hcell hv hcl => ?_) (fun r_6 u_6 t H1 locs ht0 hvm hw_6 hB hz1 hk1 hS => ?_)
  · exact vx_out (fun x hx => (hexc x hx).elim) hlocks hcell hv hcl (fun t2 h2 hv2 => ⟨(), trivial, (by obtain ⟨hE, hb9⟩ := hB; (try simp only [Int32.reduceToInt] at hb9); exact .inr (.inr (⟨hE, (show zS_find p0 p1 p2 p3 p4 3 0 from (.inr (.inr ⟨rfl, by omega⟩)))⟩))), hS.F h2⟩) hS.2.2 (Nat.le_of_ble_eq_true rfl) (Nat.le_of_ble_eq_true rfl)
  exact hw_6.elim
