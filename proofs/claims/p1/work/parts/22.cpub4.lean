abbrev cX0_turned : ByteArray := prog_2_method_7_code
def yX0_turned : MethodName := ⟨RX0, "turned", "()LChainwork$Chain;"⟩
theorem zw_502 : Cond.classLink RX0 12 RX0 ∈ zT := zT_of 1181 (by decide +kernel) (by decide +kernel)
theorem dX0_turned_0 : decode cX0_turned 0 = .ok (.new 12, 3) := by decide +kernel
theorem dX0_turned_3 : decode cX0_turned 3 = .ok (.dup, 1) := by decide +kernel
theorem zw_503 : Cond.methodLink RX0 33 yX0_init ∈ zT := zT_of 1182 (by decide +kernel) (by decide +kernel)
theorem dX0_turned_4 : decode cX0_turned 4 = .ok (.invokespecial 33, 3) := by decide +kernel
theorem dX0_turned_7 : decode cX0_turned 7 = .ok (.astore_n 1, 1) := by decide +kernel
theorem dX0_turned_8 : decode cX0_turned 8 = .ok (.iconst (-1), 1) := by decide +kernel
theorem dX0_turned_9 : decode cX0_turned 9 = .ok (.istore_n 2, 1) := by decide +kernel
theorem dX0_turned_10 : decode cX0_turned 10 = .ok (.aload_n 0, 1) := by decide +kernel
theorem dX0_turned_11 : decode cX0_turned 11 = .ok (.getfield 21, 3) := by decide +kernel
theorem dX0_turned_14 : decode cX0_turned 14 = .ok (.iconst 1, 1) := by decide +kernel
theorem dX0_turned_15 : decode cX0_turned 15 = .ok (.isub, 1) := by decide +kernel
theorem dX0_turned_16 : decode cX0_turned 16 = .ok (.istore_n 3, 1) := by decide +kernel
theorem dX0_turned_17 : decode cX0_turned 17 = .ok (.iload_n 3, 1) := by decide +kernel
theorem dX0_turned_18 : decode cX0_turned 18 = .ok (.ifCond .lt 27, 3) := by decide +kernel
theorem dX0_turned_45 : decode cX0_turned 45 = .ok (.aload_n 1, 1) := by decide +kernel
theorem dX0_turned_46 : decode cX0_turned 46 = .ok (.areturn, 1) := by decide +kernel
abbrev cX11_turn : ByteArray := prog_1_method_19_code
def yX11_turn : MethodName := ⟨RX11, "turn", "(I)I"⟩
theorem dX11_turn_0 : decode cX11_turn 0 = .ok (.iload_n 1, 1) := by decide +kernel
theorem dX11_turn_1 : decode cX11_turn 1 = .ok (.iconst 4, 1) := by decide +kernel
theorem dX11_turn_2 : decode cX11_turn 2 = .ok (.invokestatic 117, 3) := by decide +kernel
theorem dX11_turn_5 : decode cX11_turn 5 = .ok (.aload_n 0, 1) := by decide +kernel
theorem dX11_turn_6 : decode cX11_turn 6 = .ok (.invokevirtual 98, 3) := by decide +kernel
theorem dX11_turn_9 : decode cX11_turn 9 = .ok (.aload_n 0, 1) := by decide +kernel
theorem dX11_turn_10 : decode cX11_turn 10 = .ok (.getfield 10, 3) := by decide +kernel
theorem dX11_turn_13 : decode cX11_turn 13 = .ok (.getfield 263, 3) := by decide +kernel
theorem dX11_turn_16 : decode cX11_turn 16 = .ok (.iload_n 1, 1) := by decide +kernel
theorem dX11_turn_17 : decode cX11_turn 17 = .ok (.aload_n 0, 1) := by decide +kernel
theorem dX11_turn_18 : decode cX11_turn 18 = .ok (.getfield 10, 3) := by decide +kernel
theorem dX11_turn_21 : decode cX11_turn 21 = .ok (.getfield 263, 3) := by decide +kernel
theorem dX11_turn_24 : decode cX11_turn 24 = .ok (.iload_n 1, 1) := by decide +kernel
theorem dX11_turn_25 : decode cX11_turn 25 = .ok (.aaload, 1) := by decide +kernel
theorem zw_504 : Cond.methodLink RX11 353 yX0_turned ∈ zT := zT_of 1206 (by decide +kernel) (by decide +kernel)
theorem zw_505 : Cond.instanceMethod yX0_turned ∈ zT := zT_of 1207 (by decide +kernel) (by decide +kernel)
theorem zw_506 : Cond.selects RX0 yX0_turned yX0_turned ∈ zT := zT_of 1208 (by decide +kernel) (by decide +kernel)
theorem zw_507 : Cond.code yX0_turned cX0_turned 4 (some (.object "Chainwork$Chain")) ∈ zT := zT_of 1209 (by decide +kernel) (by decide +kernel)
theorem dX11_turn_26 : decode cX11_turn 26 = .ok (.invokevirtual 353, 3) := by decide +kernel
theorem dX11_turn_29 : decode cX11_turn 29 = .ok (.aastore, 1) := by decide +kernel
theorem dX11_turn_30 : decode cX11_turn 30 = .ok (.aload_n 0, 1) := by decide +kernel
theorem dX11_turn_31 : decode cX11_turn 31 = .ok (.getfield 10, 3) := by decide +kernel
theorem dX11_turn_34 : decode cX11_turn 34 = .ok (.getfield 263, 3) := by decide +kernel
theorem dX11_turn_37 : decode cX11_turn 37 = .ok (.iload_n 1, 1) := by decide +kernel
theorem dX11_turn_38 : decode cX11_turn 38 = .ok (.aaload, 1) := by decide +kernel
theorem dX11_turn_39 : decode cX11_turn 39 = .ok (.getfield 317, 3) := by decide +kernel
theorem dX11_turn_42 : decode cX11_turn 42 = .ok (.ireturn, 1) := by decide +kernel
abbrev cX11_image : ByteArray := prog_1_method_26_code
def yX11_image : MethodName := ⟨RX11, "image", "(I)Z"⟩
theorem dX11_image_0 : decode cX11_image 0 = .ok (.iload_n 1, 1) := by decide +kernel
theorem dX11_image_1 : decode cX11_image 1 = .ok (.iconst 2, 1) := by decide +kernel
theorem dX11_image_2 : decode cX11_image 2 = .ok (.invokestatic 117, 3) := by decide +kernel
theorem dX11_image_5 : decode cX11_image 5 = .ok (.aload_n 0, 1) := by decide +kernel
theorem dX11_image_6 : decode cX11_image 6 = .ok (.getfield 30, 3) := by decide +kernel
theorem dX11_image_9 : decode cX11_image 9 = .ok (.iload_n 1, 1) := by decide +kernel
theorem dX11_image_10 : decode cX11_image 10 = .ok (.baload, 1) := by decide +kernel
theorem dX11_image_11 : decode cX11_image 11 = .ok (.istore_n 2, 1) := by decide +kernel
theorem dX11_image_12 : decode cX11_image 12 = .ok (.aload_n 0, 1) := by decide +kernel
theorem dX11_image_13 : decode cX11_image 13 = .ok (.getfield 27, 3) := by decide +kernel
theorem dX11_image_16 : decode cX11_image 16 = .ok (.iload_n 1, 1) := by decide +kernel
theorem dX11_image_17 : decode cX11_image 17 = .ok (.aaload, 1) := by decide +kernel
theorem dX11_image_18 : decode cX11_image 18 = .ok (.aload_n 0, 1) := by decide +kernel
theorem dX11_image_19 : decode cX11_image 19 = .ok (.getfield 10, 3) := by decide +kernel
theorem dX11_image_22 : decode cX11_image 22 = .ok (.invokevirtual 392, 3) := by decide +kernel
theorem dX11_image_25 : decode cX11_image 25 = .ok (.aload_n 0, 1) := by decide +kernel
theorem dX11_image_26 : decode cX11_image 26 = .ok (.getfield 30, 3) := by decide +kernel
theorem dX11_image_29 : decode cX11_image 29 = .ok (.iload_n 1, 1) := by decide +kernel
theorem dX11_image_30 : decode cX11_image 30 = .ok (.iconst 1, 1) := by decide +kernel
theorem dX11_image_31 : decode cX11_image 31 = .ok (.bastore, 1) := by decide +kernel
theorem dX11_image_32 : decode cX11_image 32 = .ok (.iload_n 2, 1) := by decide +kernel
theorem dX11_image_33 : decode cX11_image 33 = .ok (.ireturn, 1) := by decide +kernel
abbrev cX10_parse : ByteArray := prog_12_method_3_code
def yX10_parse : MethodName := ⟨RX10, "parse", "(LChainwork$State;)I"⟩
theorem dX10_parse_0 : decode cX10_parse 0 = .ok (.aload_n 0, 1) := by decide +kernel
theorem dX10_parse_1 : decode cX10_parse 1 = .ok (.iconst 0, 1) := by decide +kernel
theorem dX10_parse_2 : decode cX10_parse 2 = .ok (.putfield 19, 3) := by decide +kernel
theorem dX10_parse_5 : decode cX10_parse 5 = .ok (.aload_n 0, 1) := by decide +kernel
theorem dX10_parse_6 : decode cX10_parse 6 = .ok (.iconst 0, 1) := by decide +kernel
theorem dX10_parse_7 : decode cX10_parse 7 = .ok (.putfield 25, 3) := by decide +kernel
theorem dX10_parse_10 : decode cX10_parse 10 = .ok (.aload_n 0, 1) := by decide +kernel
theorem dX10_parse_11 : decode cX10_parse 11 = .ok (.iconst 0, 1) := by decide +kernel
theorem dX10_parse_12 : decode cX10_parse 12 = .ok (.putfield 28, 3) := by decide +kernel
theorem dX10_parse_15 : decode cX10_parse 15 = .ok (.iconst 0, 1) := by decide +kernel
theorem dX10_parse_16 : decode cX10_parse 16 = .ok (.istore_n 2, 1) := by decide +kernel
theorem dX10_parse_17 : decode cX10_parse 17 = .ok (.iload_n 2, 1) := by decide +kernel
theorem dX10_parse_18 : decode cX10_parse 18 = .ok (.aload_n 0, 1) := by decide +kernel
theorem dX10_parse_19 : decode cX10_parse 19 = .ok (.getfield 9, 3) := by decide +kernel
theorem dX10_parse_22 : decode cX10_parse 22 = .ok (.if_icmp .ge 36, 3) := by decide +kernel
theorem dX10_parse_58 : decode cX10_parse 58 = .ok (.aload_n 0, 1) := by decide +kernel
theorem dX10_parse_59 : decode cX10_parse 59 = .ok (.getfield 28, 3) := by decide +kernel
theorem dX10_parse_62 : decode cX10_parse 62 = .ok (.iconst 3, 1) := by decide +kernel
theorem dX10_parse_63 : decode cX10_parse 63 = .ok (.if_icmp .ne 7, 3) := by decide +kernel
theorem dX10_parse_70 : decode cX10_parse 70 = .ok (.aload_n 0, 1) := by decide +kernel
theorem dX10_parse_71 : decode cX10_parse 71 = .ok (.getfield 9, 3) := by decide +kernel
theorem dX10_parse_74 : decode cX10_parse 74 = .ok (.ireturn, 1) := by decide +kernel
abbrev cX11_read : ByteArray := prog_1_method_5_code
def yX11_read : MethodName := ⟨RX11, "read", "(I)I"⟩
theorem dX11_read_0 : decode cX11_read 0 = .ok (.iload_n 1, 1) := by decide +kernel
theorem dX11_read_1 : decode cX11_read 1 = .ok (.bipush 10, 2) := by decide +kernel
theorem dX11_read_3 : decode cX11_read 3 = .ok (.invokestatic 117, 3) := by decide +kernel
theorem dX11_read_6 : decode cX11_read 6 = .ok (.aload_n 0, 1) := by decide +kernel
theorem dX11_read_7 : decode cX11_read 7 = .ok (.getfield 42, 3) := by decide +kernel
theorem dX11_read_10 : decode cX11_read 10 = .ok (.aload_n 0, 1) := by decide +kernel
theorem dX11_read_11 : decode cX11_read 11 = .ok (.getfield 10, 3) := by decide +kernel
theorem zw_508 : Cond.methodLink RX11 152 yX10_parse ∈ zT := zT_of 432 (by decide +kernel) (by decide +kernel)
theorem zw_509 : Cond.instanceMethod yX10_parse ∈ zT := zT_of 433 (by decide +kernel) (by decide +kernel)
theorem zw_510 : Cond.selects RX10 yX10_parse yX10_parse ∈ zT := zT_of 434 (by decide +kernel) (by decide +kernel)
theorem zw_511 : Cond.code yX10_parse cX10_parse 3 (some .int) ∈ zT := zT_of 435 (by decide +kernel) (by decide +kernel)
theorem dX11_read_14 : decode cX11_read 14 = .ok (.invokevirtual 152, 3) := by decide +kernel
theorem dX11_read_17 : decode cX11_read 17 = .ok (.iconst (-1), 1) := by decide +kernel
theorem dX11_read_18 : decode cX11_read 18 = .ok (.if_icmp .eq 13, 3) := by decide +kernel
theorem dX11_read_21 : decode cX11_read 21 = .ok (.new 156, 3) := by decide +kernel
theorem dX11_read_24 : decode cX11_read 24 = .ok (.dup, 1) := by decide +kernel
theorem dX11_read_25 : decode cX11_read 25 = .ok (.ldc 158, 2) := by decide +kernel
theorem dX11_read_27 : decode cX11_read 27 = .ok (.invokespecial 160, 3) := by decide +kernel
theorem dX11_read_30 : decode cX11_read 30 = .ok (.athrow, 1) := by decide +kernel
abbrev cX11_errorPlace : ByteArray := prog_1_method_29_code
def yX11_errorPlace : MethodName := ⟨RX11, "errorPlace", "()I"⟩
theorem dX11_errorPlace_0 : decode cX11_errorPlace 0 = .ok (.aload_n 0, 1) := by decide +kernel
theorem dX11_errorPlace_1 : decode cX11_errorPlace 1 = .ok (.getfield 42, 3) := by decide +kernel
theorem dX11_errorPlace_4 : decode cX11_errorPlace 4 = .ok (.aload_n 0, 1) := by decide +kernel
theorem dX11_errorPlace_5 : decode cX11_errorPlace 5 = .ok (.getfield 10, 3) := by decide +kernel
theorem dX11_errorPlace_8 : decode cX11_errorPlace 8 = .ok (.invokevirtual 152, 3) := by decide +kernel
theorem dX11_errorPlace_11 : decode cX11_errorPlace 11 = .ok (.ireturn, 1) := by decide +kernel
abbrev cX9_placesOf : ByteArray := prog_11_method_4_code
def yX9_placesOf : MethodName := ⟨RX9, "placesOf", "(I)I"⟩
theorem dX9_placesOf_0 : decode cX9_placesOf 0 = .ok (.iload_n 0, 1) := by decide +kernel
theorem dX9_placesOf_1 : decode cX9_placesOf 1 = .ok (.iconst 4, 1) := by decide +kernel
theorem dX9_placesOf_2 : decode cX9_placesOf 2 = .ok (.if_icmp .ge 7, 3) := by decide +kernel
theorem dX9_placesOf_5 : decode cX9_placesOf 5 = .ok (.iconst 0, 1) := by decide +kernel
theorem dX9_placesOf_6 : decode cX9_placesOf 6 = .ok (.goto 8, 3) := by decide +kernel
theorem dX9_placesOf_14 : decode cX9_placesOf 14 = .ok (.ireturn, 1) := by decide +kernel
abbrev cX9_signOf : ByteArray := prog_11_method_5_code
def yX9_signOf : MethodName := ⟨RX9, "signOf", "(I)I"⟩
theorem dX9_signOf_0 : decode cX9_signOf 0 = .ok (.iload_n 0, 1) := by decide +kernel
theorem dX9_signOf_1 : decode cX9_signOf 1 = .ok (.iconst 4, 1) := by decide +kernel
theorem dX9_signOf_2 : decode cX9_signOf 2 = .ok (.if_icmp .ge 7, 3) := by decide +kernel
theorem dX9_signOf_5 : decode cX9_signOf 5 = .ok (.iconst (-1), 1) := by decide +kernel
theorem dX9_signOf_6 : decode cX9_signOf 6 = .ok (.goto 8, 3) := by decide +kernel
theorem dX9_signOf_14 : decode cX9_signOf 14 = .ok (.ireturn, 1) := by decide +kernel
abbrev cX9_findEnds : ByteArray := prog_11_method_8_code
def yX9_findEnds : MethodName := ⟨RX9, "findEnds", "()V"⟩
theorem dX9_findEnds_0 : decode cX9_findEnds 0 = .ok (.aload_n 0, 1) := by decide +kernel
theorem zw_512 : Cond.fieldLink RX9 38 RX9 "size" "I" ∈ zT := zT_of 214 (by decide +kernel) (by decide +kernel)
theorem dX9_findEnds_1 : decode cX9_findEnds 1 = .ok (.getfield 38, 3) := by decide +kernel
theorem dX9_findEnds_4 : decode cX9_findEnds 4 = .ok (.iconst 1, 1) := by decide +kernel
theorem dX9_findEnds_5 : decode cX9_findEnds 5 = .ok (.isub, 1) := by decide +kernel
theorem dX9_findEnds_6 : decode cX9_findEnds 6 = .ok (.istore_n 1, 1) := by decide +kernel
theorem dX9_findEnds_7 : decode cX9_findEnds 7 = .ok (.iload_n 1, 1) := by decide +kernel
theorem dX9_findEnds_8 : decode cX9_findEnds 8 = .ok (.ifCond .lt 60, 3) := by decide +kernel
theorem dX9_findEnds_11 : decode cX9_findEnds 11 = .ok (.iload_n 1, 1) := by decide +kernel
theorem dX9_findEnds_12 : decode cX9_findEnds 12 = .ok (.iconst 1, 1) := by decide +kernel
theorem dX9_findEnds_13 : decode cX9_findEnds 13 = .ok (.iadd, 1) := by decide +kernel
theorem dX9_findEnds_14 : decode cX9_findEnds 14 = .ok (.istore_n 2, 1) := by decide +kernel
theorem dX9_findEnds_15 : decode cX9_findEnds 15 = .ok (.aload_n 0, 1) := by decide +kernel
theorem dX9_findEnds_16 : decode cX9_findEnds 16 = .ok (.getfield 9, 3) := by decide +kernel
theorem dX9_findEnds_19 : decode cX9_findEnds 19 = .ok (.iload_n 1, 1) := by decide +kernel
theorem dX9_findEnds_20 : decode cX9_findEnds 20 = .ok (.iaload, 1) := by decide +kernel
theorem zw_513 : Cond.methodLink RX9 65 yX9_placesOf ∈ zT := zT_of 666 (by decide +kernel) (by decide +kernel)
theorem zw_514 : Cond.static yX9_placesOf ∈ zT := zT_of 525 (by decide +kernel) (by decide +kernel)
theorem zw_515 : Cond.code yX9_placesOf cX9_placesOf 1 (some .int) ∈ zT := zT_of 526 (by decide +kernel) (by decide +kernel)
theorem dX9_findEnds_21 : decode cX9_findEnds 21 = .ok (.invokestatic 65, 3) := by decide +kernel
theorem dX9_findEnds_24 : decode cX9_findEnds 24 = .ok (.istore_n 3, 1) := by decide +kernel
theorem dX9_findEnds_25 : decode cX9_findEnds 25 = .ok (.iconst 0, 1) := by decide +kernel
theorem dX9_findEnds_26 : decode cX9_findEnds 26 = .ok (.istore 4, 2) := by decide +kernel
theorem dX9_findEnds_28 : decode cX9_findEnds 28 = .ok (.iload 4, 2) := by decide +kernel
theorem dX9_findEnds_30 : decode cX9_findEnds 30 = .ok (.iload_n 3, 1) := by decide +kernel
theorem dX9_findEnds_31 : decode cX9_findEnds 31 = .ok (.if_icmp .ge 24, 3) := by decide +kernel
theorem dX9_findEnds_55 : decode cX9_findEnds 55 = .ok (.aload_n 0, 1) := by decide +kernel
theorem dX9_findEnds_56 : decode cX9_findEnds 56 = .ok (.getfield 15, 3) := by decide +kernel
theorem dX9_findEnds_59 : decode cX9_findEnds 59 = .ok (.iload_n 1, 1) := by decide +kernel
theorem dX9_findEnds_60 : decode cX9_findEnds 60 = .ok (.iload_n 2, 1) := by decide +kernel
theorem dX9_findEnds_61 : decode cX9_findEnds 61 = .ok (.iastore, 1) := by decide +kernel
theorem dX9_findEnds_62 : decode cX9_findEnds 62 = .ok (.iinc 1 (-1), 3) := by decide +kernel
theorem dX9_findEnds_65 : decode cX9_findEnds 65 = .ok (.goto (-58), 3) := by decide +kernel
theorem dX9_findEnds_68 : decode cX9_findEnds 68 = .ok (.return_, 1) := by decide +kernel
abbrev cX9_settle : ByteArray := prog_11_method_7_code
def yX9_settle : MethodName := ⟨RX9, "settle", "([LChainwork$Sign;)V"⟩
theorem dX9_settle_0 : decode cX9_settle 0 = .ok (.aload_n 0, 1) := by decide +kernel
theorem zw_516 : Cond.methodLink RX9 48 yX9_findEnds ∈ zT := zT_of 925 (by decide +kernel) (by decide +kernel)
theorem zw_517 : Cond.instanceMethod yX9_findEnds ∈ zT := zT_of 663 (by decide +kernel) (by decide +kernel)
theorem zw_518 : Cond.selects RX9 yX9_findEnds yX9_findEnds ∈ zT := zT_of 664 (by decide +kernel) (by decide +kernel)
theorem zw_519 : Cond.code yX9_findEnds cX9_findEnds 5 none ∈ zT := zT_of 665 (by decide +kernel) (by decide +kernel)
theorem dX9_settle_1 : decode cX9_settle 1 = .ok (.invokevirtual 48, 3) := by decide +kernel
theorem dX9_settle_4 : decode cX9_settle 4 = .ok (.aload_n 0, 1) := by decide +kernel
theorem dX9_settle_5 : decode cX9_settle 5 = .ok (.iconst 0, 1) := by decide +kernel
theorem zw_520 : Cond.fieldLink RX9 51 RX9 "variables" "I" ∈ zT := zT_of 219 (by decide +kernel) (by decide +kernel)
theorem dX9_settle_6 : decode cX9_settle 6 = .ok (.putfield 51, 3) := by decide +kernel
theorem dX9_settle_9 : decode cX9_settle 9 = .ok (.aload_n 0, 1) := by decide +kernel
theorem dX9_settle_10 : decode cX9_settle 10 = .ok (.iconst 0, 1) := by decide +kernel
theorem zw_521 : Cond.fieldLink RX9 54 RX9 "signMask" "I" ∈ zT := zT_of 222 (by decide +kernel) (by decide +kernel)
theorem dX9_settle_11 : decode cX9_settle 11 = .ok (.putfield 54, 3) := by decide +kernel
theorem dX9_settle_14 : decode cX9_settle 14 = .ok (.aload_n 0, 1) := by decide +kernel
theorem dX9_settle_15 : decode cX9_settle 15 = .ok (.getfield 18, 3) := by decide +kernel
theorem dX9_settle_18 : decode cX9_settle 18 = .ok (.iconst 0, 1) := by decide +kernel
theorem dX9_settle_19 : decode cX9_settle 19 = .ok (.iconst 0, 1) := by decide +kernel
theorem dX9_settle_20 : decode cX9_settle 20 = .ok (.iastore, 1) := by decide +kernel
theorem dX9_settle_21 : decode cX9_settle 21 = .ok (.iconst 0, 1) := by decide +kernel
theorem dX9_settle_22 : decode cX9_settle 22 = .ok (.istore_n 2, 1) := by decide +kernel
theorem dX9_settle_23 : decode cX9_settle 23 = .ok (.iload_n 2, 1) := by decide +kernel
theorem dX9_settle_24 : decode cX9_settle 24 = .ok (.aload_n 0, 1) := by decide +kernel
theorem dX9_settle_25 : decode cX9_settle 25 = .ok (.getfield 38, 3) := by decide +kernel
theorem dX9_settle_28 : decode cX9_settle 28 = .ok (.if_icmp .ge 64, 3) := by decide +kernel
theorem dX9_settle_31 : decode cX9_settle 31 = .ok (.aload_n 0, 1) := by decide +kernel
theorem dX9_settle_32 : decode cX9_settle 32 = .ok (.getfield 9, 3) := by decide +kernel
theorem dX9_settle_35 : decode cX9_settle 35 = .ok (.iload_n 2, 1) := by decide +kernel
theorem dX9_settle_36 : decode cX9_settle 36 = .ok (.iaload, 1) := by decide +kernel
theorem zw_522 : Cond.methodLink RX9 57 yX9_signOf ∈ zT := zT_of 926 (by decide +kernel) (by decide +kernel)
theorem zw_523 : Cond.static yX9_signOf ∈ zT := zT_of 528 (by decide +kernel) (by decide +kernel)
theorem zw_524 : Cond.code yX9_signOf cX9_signOf 1 (some .int) ∈ zT := zT_of 529 (by decide +kernel) (by decide +kernel)
theorem dX9_settle_37 : decode cX9_settle 37 = .ok (.invokestatic 57, 3) := by decide +kernel
theorem dX9_settle_40 : decode cX9_settle 40 = .ok (.istore_n 3, 1) := by decide +kernel
theorem dX9_settle_41 : decode cX9_settle 41 = .ok (.iload_n 3, 1) := by decide +kernel
theorem dX9_settle_42 : decode cX9_settle 42 = .ok (.iconst (-1), 1) := by decide +kernel
theorem dX9_settle_43 : decode cX9_settle 43 = .ok (.if_icmp .ne 23, 3) := by decide +kernel
theorem dX9_settle_46 : decode cX9_settle 46 = .ok (.aload_n 0, 1) := by decide +kernel
theorem dX9_settle_47 : decode cX9_settle 47 = .ok (.dup, 1) := by decide +kernel
theorem dX9_settle_48 : decode cX9_settle 48 = .ok (.getfield 51, 3) := by decide +kernel
theorem dX9_settle_51 : decode cX9_settle 51 = .ok (.iconst 1, 1) := by decide +kernel
theorem dX9_settle_52 : decode cX9_settle 52 = .ok (.aload_n 0, 1) := by decide +kernel
theorem dX9_settle_53 : decode cX9_settle 53 = .ok (.getfield 9, 3) := by decide +kernel
theorem dX9_settle_56 : decode cX9_settle 56 = .ok (.iload_n 2, 1) := by decide +kernel
theorem dX9_settle_57 : decode cX9_settle 57 = .ok (.iaload, 1) := by decide +kernel
theorem dX9_settle_58 : decode cX9_settle 58 = .ok (.ishl, 1) := by decide +kernel
theorem dX9_settle_59 : decode cX9_settle 59 = .ok (.ior, 1) := by decide +kernel
theorem dX9_settle_60 : decode cX9_settle 60 = .ok (.putfield 51, 3) := by decide +kernel
theorem dX9_settle_63 : decode cX9_settle 63 = .ok (.goto 23, 3) := by decide +kernel
theorem dX9_settle_86 : decode cX9_settle 86 = .ok (.iinc 2 1, 3) := by decide +kernel
theorem dX9_settle_89 : decode cX9_settle 89 = .ok (.goto (-66), 3) := by decide +kernel
theorem dX9_settle_92 : decode cX9_settle 92 = .ok (.return_, 1) := by decide +kernel
abbrev cX9_load : ByteArray := prog_11_method_6_code
def yX9_load : MethodName := ⟨RX9, "load", "([III)V"⟩
theorem dX9_load_0 : decode cX9_load 0 = .ok (.aload_n 0, 1) := by decide +kernel
theorem dX9_load_1 : decode cX9_load 1 = .ok (.iload_n 3, 1) := by decide +kernel
theorem dX9_load_2 : decode cX9_load 2 = .ok (.aload_n 0, 1) := by decide +kernel
theorem dX9_load_3 : decode cX9_load 3 = .ok (.getfield 9, 3) := by decide +kernel
theorem dX9_load_6 : decode cX9_load 6 = .ok (.arraylength, 1) := by decide +kernel
theorem zw_525 : Cond.methodLink RX9 32 Lib.Math.min.name ∈ zT := zT_of 919 (by decide +kernel) (by decide +kernel)
theorem dX9_load_7 : decode cX9_load 7 = .ok (.invokestatic 32, 3) := by decide +kernel
theorem dX9_load_10 : decode cX9_load 10 = .ok (.putfield 38, 3) := by decide +kernel
theorem dX9_load_13 : decode cX9_load 13 = .ok (.aload_n 1, 1) := by decide +kernel
theorem dX9_load_14 : decode cX9_load 14 = .ok (.iload_n 2, 1) := by decide +kernel
theorem dX9_load_15 : decode cX9_load 15 = .ok (.aload_n 0, 1) := by decide +kernel
theorem dX9_load_16 : decode cX9_load 16 = .ok (.getfield 9, 3) := by decide +kernel
theorem dX9_load_19 : decode cX9_load 19 = .ok (.iconst 0, 1) := by decide +kernel
theorem dX9_load_20 : decode cX9_load 20 = .ok (.aload_n 0, 1) := by decide +kernel
theorem dX9_load_21 : decode cX9_load 21 = .ok (.getfield 38, 3) := by decide +kernel
theorem zw_526 : Cond.methodLink RX9 42 arraycopyName ∈ zT := zT_of 920 (by decide +kernel) (by decide +kernel)
theorem dX9_load_24 : decode cX9_load 24 = .ok (.invokestatic 42, 3) := by decide +kernel
theorem dX9_load_27 : decode cX9_load 27 = .ok (.return_, 1) := by decide +kernel
abbrev cX9_init_ : ByteArray := prog_11_method_2_code
def yX9_init_ : MethodName := ⟨RX9, "<init>", "([III[LChainwork$Sign;)V"⟩
theorem dX9_init__0 : decode cX9_init_ 0 = .ok (.aload_n 0, 1) := by decide +kernel
theorem dX9_init__1 : decode cX9_init_ 1 = .ok (.iload_n 3, 1) := by decide +kernel
theorem zw_527 : Cond.methodLink RX9 21 yX9_init ∈ zT := zT_of 914 (by decide +kernel) (by decide +kernel)
theorem dX9_init__2 : decode cX9_init_ 2 = .ok (.invokespecial 21, 3) := by decide +kernel
theorem dX9_init__5 : decode cX9_init_ 5 = .ok (.aload_n 0, 1) := by decide +kernel
theorem dX9_init__6 : decode cX9_init_ 6 = .ok (.aload_n 1, 1) := by decide +kernel
theorem dX9_init__7 : decode cX9_init_ 7 = .ok (.iload_n 2, 1) := by decide +kernel
theorem dX9_init__8 : decode cX9_init_ 8 = .ok (.iload_n 3, 1) := by decide +kernel
theorem zw_528 : Cond.methodLink RX9 24 yX9_load ∈ zT := zT_of 915 (by decide +kernel) (by decide +kernel)
theorem zw_529 : Cond.instanceMethod yX9_load ∈ zT := zT_of 916 (by decide +kernel) (by decide +kernel)
theorem zw_530 : Cond.selects RX9 yX9_load yX9_load ∈ zT := zT_of 917 (by decide +kernel) (by decide +kernel)
theorem zw_531 : Cond.code yX9_load cX9_load 4 none ∈ zT := zT_of 918 (by decide +kernel) (by decide +kernel)
theorem dX9_init__9 : decode cX9_init_ 9 = .ok (.invokevirtual 24, 3) := by decide +kernel
theorem dX9_init__12 : decode cX9_init_ 12 = .ok (.aload_n 0, 1) := by decide +kernel
theorem dX9_init__13 : decode cX9_init_ 13 = .ok (.aload 4, 2) := by decide +kernel
theorem zw_532 : Cond.methodLink RX9 28 yX9_settle ∈ zT := zT_of 921 (by decide +kernel) (by decide +kernel)
theorem zw_533 : Cond.instanceMethod yX9_settle ∈ zT := zT_of 922 (by decide +kernel) (by decide +kernel)
theorem zw_534 : Cond.selects RX9 yX9_settle yX9_settle ∈ zT := zT_of 923 (by decide +kernel) (by decide +kernel)
theorem zw_535 : Cond.code yX9_settle cX9_settle 4 none ∈ zT := zT_of 924 (by decide +kernel) (by decide +kernel)
theorem dX9_init__15 : decode cX9_init_ 15 = .ok (.invokevirtual 28, 3) := by decide +kernel
theorem dX9_init__18 : decode cX9_init_ 18 = .ok (.return_, 1) := by decide +kernel
abbrev cX8_countFilled : ByteArray := prog_10_method_3_code
def yX8_countFilled : MethodName := ⟨RX8, "countFilled", "()I"⟩
theorem dX8_countFilled_0 : decode cX8_countFilled 0 = .ok (.iconst 0, 1) := by decide +kernel
theorem dX8_countFilled_1 : decode cX8_countFilled 1 = .ok (.istore_n 1, 1) := by decide +kernel
theorem dX8_countFilled_2 : decode cX8_countFilled 2 = .ok (.iconst 0, 1) := by decide +kernel
theorem dX8_countFilled_3 : decode cX8_countFilled 3 = .ok (.istore_n 2, 1) := by decide +kernel
theorem dX8_countFilled_4 : decode cX8_countFilled 4 = .ok (.iload_n 2, 1) := by decide +kernel
theorem dX8_countFilled_5 : decode cX8_countFilled 5 = .ok (.bipush 10, 2) := by decide +kernel
theorem dX8_countFilled_7 : decode cX8_countFilled 7 = .ok (.if_icmp .ge 26, 3) := by decide +kernel
theorem dX8_countFilled_33 : decode cX8_countFilled 33 = .ok (.iload_n 1, 1) := by decide +kernel
theorem dX8_countFilled_34 : decode cX8_countFilled 34 = .ok (.ireturn, 1) := by decide +kernel
theorem dX8_countFilled_10 : decode cX8_countFilled 10 = .ok (.iload_n 1, 1) := by decide +kernel
theorem dX8_countFilled_11 : decode cX8_countFilled 11 = .ok (.aload_n 0, 1) := by decide +kernel
theorem dX8_countFilled_12 : decode cX8_countFilled 12 = .ok (.getfield 23, 3) := by decide +kernel
theorem dX8_countFilled_15 : decode cX8_countFilled 15 = .ok (.iload_n 2, 1) := by decide +kernel
theorem dX8_countFilled_16 : decode cX8_countFilled 16 = .ok (.aaload, 1) := by decide +kernel
theorem dX8_countFilled_17 : decode cX8_countFilled 17 = .ok (.ifnull 7, 3) := by decide +kernel
theorem dX8_countFilled_20 : decode cX8_countFilled 20 = .ok (.iconst 1, 1) := by decide +kernel
theorem dX8_countFilled_21 : decode cX8_countFilled 21 = .ok (.goto 4, 3) := by decide +kernel
theorem dX8_countFilled_25 : decode cX8_countFilled 25 = .ok (.iadd, 1) := by decide +kernel
theorem dX8_countFilled_26 : decode cX8_countFilled 26 = .ok (.istore_n 1, 1) := by decide +kernel
theorem dX8_countFilled_27 : decode cX8_countFilled 27 = .ok (.iinc 2 1, 3) := by decide +kernel
theorem dX8_countFilled_30 : decode cX8_countFilled 30 = .ok (.goto (-26), 3) := by decide +kernel
theorem dX8_countFilled_24 : decode cX8_countFilled 24 = .ok (.iconst 0, 1) := by decide +kernel
abbrev cX11_variable : ByteArray := prog_1_method_3_code
def yX11_variable : MethodName := ⟨RX11, "variable", "(II)I"⟩
theorem dX11_variable_0 : decode cX11_variable 0 = .ok (.iload_n 1, 1) := by decide +kernel
theorem dX11_variable_1 : decode cX11_variable 1 = .ok (.bipush 10, 2) := by decide +kernel
theorem dX11_variable_3 : decode cX11_variable 3 = .ok (.invokestatic 117, 3) := by decide +kernel
theorem dX11_variable_6 : decode cX11_variable 6 = .ok (.iload_n 2, 1) := by decide +kernel
theorem dX11_variable_7 : decode cX11_variable 7 = .ok (.iconst 3, 1) := by decide +kernel
theorem dX11_variable_8 : decode cX11_variable 8 = .ok (.invokestatic 84, 3) := by decide +kernel
theorem dX11_variable_11 : decode cX11_variable 11 = .ok (.aload_n 0, 1) := by decide +kernel
theorem dX11_variable_12 : decode cX11_variable 12 = .ok (.invokevirtual 98, 3) := by decide +kernel
theorem dX11_variable_15 : decode cX11_variable 15 = .ok (.aload_n 0, 1) := by decide +kernel
theorem dX11_variable_16 : decode cX11_variable 16 = .ok (.getfield 49, 3) := by decide +kernel
theorem dX11_variable_19 : decode cX11_variable 19 = .ok (.iconst 0, 1) := by decide +kernel
theorem dX11_variable_20 : decode cX11_variable 20 = .ok (.iload_n 2, 1) := by decide +kernel
theorem dX11_variable_21 : decode cX11_variable 21 = .ok (.iastore, 1) := by decide +kernel
theorem dX11_variable_22 : decode cX11_variable 22 = .ok (.aload_n 0, 1) := by decide +kernel
theorem dX11_variable_23 : decode cX11_variable 23 = .ok (.getfield 10, 3) := by decide +kernel
theorem dX11_variable_26 : decode cX11_variable 26 = .ok (.getfield 120, 3) := by decide +kernel
theorem dX11_variable_29 : decode cX11_variable 29 = .ok (.iload_n 1, 1) := by decide +kernel
theorem zw_536 : Cond.classLink RX11 124 RX9 ∈ zT := zT_of 910 (by decide +kernel) (by decide +kernel)
theorem dX11_variable_30 : decode cX11_variable 30 = .ok (.new 124, 3) := by decide +kernel
theorem dX11_variable_33 : decode cX11_variable 33 = .ok (.dup, 1) := by decide +kernel
theorem dX11_variable_34 : decode cX11_variable 34 = .ok (.aload_n 0, 1) := by decide +kernel
theorem dX11_variable_35 : decode cX11_variable 35 = .ok (.getfield 49, 3) := by decide +kernel
theorem dX11_variable_38 : decode cX11_variable 38 = .ok (.iconst 0, 1) := by decide +kernel
theorem dX11_variable_39 : decode cX11_variable 39 = .ok (.iconst 1, 1) := by decide +kernel
theorem dX11_variable_40 : decode cX11_variable 40 = .ok (.aload_n 0, 1) := by decide +kernel
theorem dX11_variable_41 : decode cX11_variable 41 = .ok (.getfield 10, 3) := by decide +kernel
theorem dX11_variable_44 : decode cX11_variable 44 = .ok (.getfield 101, 3) := by decide +kernel
theorem zw_537 : Cond.code yX9_init_ cX9_init_ 5 none ∈ zT := zT_of 913 (by decide +kernel) (by decide +kernel)
theorem zw_538 : Cond.methodLink RX11 126 yX9_init_ ∈ zT := zT_of 911 (by decide +kernel) (by decide +kernel)
theorem zw_539 : Cond.instanceMethod yX9_init_ ∈ zT := zT_of 912 (by decide +kernel) (by decide +kernel)
theorem dX11_variable_47 : decode cX11_variable 47 = .ok (.invokespecial 126, 3) := by decide +kernel
theorem dX11_variable_50 : decode cX11_variable 50 = .ok (.aastore, 1) := by decide +kernel
theorem dX11_variable_51 : decode cX11_variable 51 = .ok (.aload_n 0, 1) := by decide +kernel
theorem dX11_variable_52 : decode cX11_variable 52 = .ok (.getfield 10, 3) := by decide +kernel
theorem zw_540 : Cond.methodLink RX11 129 yX8_countFilled ∈ zT := zT_of 931 (by decide +kernel) (by decide +kernel)
theorem zw_541 : Cond.instanceMethod yX8_countFilled ∈ zT := zT_of 932 (by decide +kernel) (by decide +kernel)
theorem zw_542 : Cond.selects RX8 yX8_countFilled yX8_countFilled ∈ zT := zT_of 933 (by decide +kernel) (by decide +kernel)
theorem zw_543 : Cond.code yX8_countFilled cX8_countFilled 3 (some .int) ∈ zT := zT_of 934 (by decide +kernel) (by decide +kernel)
theorem dX11_variable_55 : decode cX11_variable 55 = .ok (.invokevirtual 129, 3) := by decide +kernel
theorem dX11_variable_58 : decode cX11_variable 58 = .ok (.ireturn, 1) := by decide +kernel
set_option maxHeartbeats 4000000 in
set_option maxRecDepth 100000 in
theorem k_X0_turned (l : Launch) (sz : Nat) (D : va_G) (h cs : Nat → Nat) : Met l yX0_turned (.code yX0_turned cX0_turned 4 (some (.object "Chainwork$Chain")) :: zT) ({ frames := 2, cells := 3, slots := 27, locals := 32 }) (va_Pc [.ref (h 8)] (zX zTab D [((h 8), .inr (0, [.ref (h 102), .ref (h 103), .int 0]))] [] sz)) (va_Qq (fun (r : Option Nat) (u : Nat) => r = some u) (fun u t => ∃ q1 q2 : Nat, zE D [((h 8), .inr (0, [.ref (h 102), .ref (h 103), .int 0])), (u, .inr (0, [.ref q1, .ref q2, .int 0]))] [] (va_A [((h 8), .inr (0, [.ref (h 102), .ref (h 103), .int 0]))] sz) t) (va_A [((h 8), .inr (0, [.ref (h 102), .ref (h 103), .int 0]))] sz)) 3 27 (va_A [((h 8), .inr (0, [.ref (h 102), .ref (h 103), .int 0]))] sz) := by
  refine Met.ofW (cc := cX0_turned) (maxL := 4) (ret := (some (.object "Chainwork$Chain"))) (by decide) rfl ?_
  intro p e s m args below meth c s₁ B hml hv
  obtain ⟨rfl, hX, hsz, hP, hK, hD0⟩ := hv
  have hx := B.exec
  have hb := B.bytes
  have hr := B.returns
  have hts := atoms_spec (ws := (.code yX0_turned cX0_turned 4 (some (.object "Chainwork$Chain")) :: zT)) B.pre
  have ht : ∀ w ∈ zT, w.before _ s = true := fun w h => hts w (List.mem_cons_of_mem _ h)
  have hown : s.vm.findClass RX0 = some m.cls := findClass_of_methodNamed B.named
  have hlocks := B.notSynchronized
  subst hsz
  have hD := hD0.self (sz := s.heap.size)
  generalize hAe : va_A [((h 8), .inr (0, [.ref (h 102), .ref (h 103), .int 0]))] s.heap.size = A at hD ⊢
  have hA : ∀ q : Nat, s.heap.size ≤ q → A q := fun q h => by rw [← hAe]; exact Or.inr h
  have hS : va_S A s.heap s.heap [] := va_S.rf
  have hP : va_P D vwCl [((h 8), .inr (0, [.ref (h 102), .ref (h 103), .int 0]))] s.heap := hP
  have hl := lv_entry ([.ref (h 8)]) (n := 4) (Nat.le_of_ble_eq_true rfl)
  rw [lg_entry_eq]
  generalize (lg_sl ([.ref (h 8)]) ++ List.replicate (4 - (lg_sl ([.ref (h 8)])).length) Slot.unset).toArray = ls at hl ⊢
  have hl : lv_has ls 4 [(0, .ref (h 8))] := hl
  skip
  refine va_new (ci := 0) (fs := [.null, .null, .int 0]) (C := RX0) (T := TX0) (N := 3) hx hb ht zinX0 tyX0 tyX0_ok hown (ht _ zw_502) (ht _ zw_201) (ht _ zw_202) hK hP hD hS hA rfl (fun j hj => by rcases (show j = 0 ∨ j = 1 ∨ j = 2 by omega) with rfl | rfl | rfl <;> rfl) (Nat.le_of_ble_eq_true rfl) (Nat.le_of_ble_eq_true rfl) dX0_turned_0 (fun q_1 H hP hD hS => ?_)
  have hP : va_P D vwCl [((h 8), .inr (0, [.ref (h 102), .ref (h 103), .int 0])), (q_1, .inr (0, [.null, .null, .int 0]))] H := hP
  have hD : va_D A [((h 8), .inr (0, [.ref (h 102), .ref (h 103), .int 0])), (q_1, .inr (0, [.null, .null, .int 0]))] := hD
  refine W.widen (k := 1) (n := 3) (Nat.le_of_ble_eq_true rfl) (Nat.le_of_ble_eq_true rfl) ?_
  refine lv_dup hx hb dX0_turned_3 rfl ?_
  have hPc := hP.sub (ws' := [(q_1, .inr (0, [.null, .null, .int 0]))]) [1] rfl
  have hDc := hD.sub (ws' := [(q_1, .inr (0, [.null, .null, .int 0]))]) [1] (by decide) rfl
  have hKc := hK.sub (tys' := []) [] rfl
  have hFc := va_free (wc := [(q_1, .inr (0, [.null, .null, .int 0]))]) hD hS hA [1] rfl
  refine va_callv (va_runI (As := []) (rest := [.ref q_1]) ⟨hx, hb, hml, hown, ht⟩ (k_X0_init l _ D q_1) (cwI 0 ht (zG zw_203) rfl rfl rfl (ht _ zw_202) (ht _ zw_503) (ht _ zw_204) rfl (by decide +kernel) ⟨Nat.le_of_ble_eq_true rfl, Nat.le_of_ble_eq_true rfl⟩) (zXw_I (fun _ _ => zTab.warm) hX hPc hKc hDc) rfl rfl hl.1 rfl (lv_room (Nat.le_of_ble_eq_true rfl)) dX0_turned_4 ⟨Nat.le_of_ble_eq_true rfl, Nat.le_of_ble_eq_true rfl⟩) hS (fun q _ h => hFc q h) hFc (fun u_2 t H1 locs ht0 hvm hw_2 hB hz1 hk1 hS => ?_)
  obtain ⟨qa_2, qb_2, hB⟩ := hB
  obtain ⟨hP1, hK1, hD1⟩ := hB
  rw [ht0] at hP1
  have hK1 := va_K.moved hvm.symm hK1
  obtain ⟨hP, hD⟩ := va_join (wr := [((h 8), .inr (0, [.ref (h 102), .ref (h 103), .int 0]))]) (w1 := [(q_1, .inr (0, [.ref qa_2, .ref qb_2, .int 0]))]) hP hD [1] [0] rfl rfl (by decide) (by decide) hk1 hFc hP1 hD1
  generalize H1 = H at hP hS ⊢
  have hP : va_P D vwCl [((h 8), .inr (0, [.ref (h 102), .ref (h 103), .int 0])), (q_1, .inr (0, [.ref qa_2, .ref qb_2, .int 0]))] H := hP
  have hD : va_D A [((h 8), .inr (0, [.ref (h 102), .ref (h 103), .int 0])), (q_1, .inr (0, [.ref qa_2, .ref qb_2, .int 0]))] := hD
  refine W.widen (k := 3) (n := 27) (Nat.le_of_ble_eq_true rfl) (Nat.le_of_ble_eq_true rfl) ?_
  refine lv_astore_n (lv' := [(1, .ref q_1), (0, .ref (h 8))]) hx hb dX0_turned_7 rfl hl (by decide) rfl (fun ls hl => ?_)
  refine lv_iconst (v := (-1)) hx hb dX0_turned_8 (by decide) ?_
  refine lv_istore_n (lv' := [(2, .int (-1)), (1, .ref q_1), (0, .ref (h 8))]) hx hb dX0_turned_9 rfl hl (by decide) rfl (fun ls hl => ?_)
  refine lv_aload_n hx hb dX0_turned_10 rfl (lv_at hl 2 rfl) ?_
  refine va_get (D := D) (ci := 0) (v := .int 0) (C := RX0) (T := TX0) (N := 3) hx hb ht zinX0 hown hK hP 0 rfl rfl 2 (by decide) (ht _ zw_167) (fun _ h9 => h9) rfl dX0_turned_11 ?_
  refine lv_iconst (v := 1) hx hb dX0_turned_14 (by decide) ?_
  refine lv_isub hx hb dX0_turned_15 ?_
  refine lv_topi (fun x_3 e_3 => ?_)
  obtain rfl : x_3 = (-1) := e_3.trans (by decide)
  refine lv_istore_n (lv' := [(3, .int (-1)), (2, .int (-1)), (1, .ref q_1), (0, .ref (h 8))]) hx hb dX0_turned_16 rfl hl (by decide) rfl (fun ls hl => ?_)
  refine lv_iload_n hx hb dX0_turned_17 rfl (lv_at hl 0 rfl) ?_
  refine lv_if_lt (tgt := 45) hx hb dX0_turned_18 (by decide) (fun c_4 => ?_) (fun c_4 => ?_)
  · skip
    refine lv_aload_n hx hb dX0_turned_45 rfl (lv_at hl 2 rfl) ?_
    have hP9 := hP.sub (ws' := [((h 8), .inr (0, [.ref (h 102), .ref (h 103), .int 0])), (q_1, .inr (0, [.ref qa_2, .ref qb_2, .int 0]))]) [0, 1] rfl
    have hD9 := hD.sub (ws' := [((h 8), .inr (0, [.ref (h 102), .ref (h 103), .int 0])), (q_1, .inr (0, [.ref qa_2, .ref qb_2, .int 0]))]) [0, 1] (by decide) rfl
    have hK9 := hK.sub (tys' := []) [] rfl
    refine W.widen (k := 3) (n := 27) (Nat.le_of_ble_eq_true rfl) (Nat.le_of_ble_eq_true rfl) ?_
    exact W.aret (v := .ref q_1) hx hb hr (.inl ⟨_, rfl⟩) (.inr ⟨_, rfl⟩) (fun t ht0 hW => ⟨⟨some q_1, q_1, rfl, rfl, qa_2, qb_2, zE_of hP9 hK9 hD9 ht0 hW⟩, hS.F ht0⟩) hS.2.2 dX0_turned_46
  · skip
    exact absurd c_4 (by decide)
set_option maxHeartbeats 4000000 in
set_option maxRecDepth 100000 in
theorem k_X11_turn (l : Launch) (hl0 : l.stackTraces = false) (sz : Nat) (D : va_G) (h cs : Nat → Nat) (p0 : Int32) (fn : Nat → Option Nat) (hn : ∀ k : Nat, k < 4 → fn k = some (h 8)) (fp f0 : Nat → Option Nat) (hp : fp 0 = some (h 10)) : vx_Met l yX11_turn (.code yX11_turn cX11_turn 2 (some .int) :: zT) ({ frames := 7, cells := 4, slots := 33, locals := 111 }) (va_Pc [.ref (h 0), .int p0] (zW D [((h 0), .inr (11, [.ref (h 1), .ref (h 9), .int 0, .int 0, .ref (h 20), .ref (h 37), .int 0, .ref (h 38), .ref (h 42), .ref (h 43), .ref (h 44), .ref (h 45), .ref (h 46), .ref (h 47), .ref (h 48)])), ((h 1), .inr (8, [.ref (h 2), .int 0, .ref (h 3), .ref (h 4), .int 0, .ref (h 5), .int 0, .ref (h 6), .int 0, .ref (h 7), .int 0])), ((h 2), .inl ((cs 7), 4, .inr (.inr (.inr (.inr (fun _ => none)))))), ((h 3), .inl ((cs 9), 10, .inr (.inr (.inr (.inr (fun _ => none)))))), ((h 4), .inl ((cs 4), 100, .inr (.inr (.inr (.inr (fun _ => none)))))), ((h 5), .inl ((cs 2), 4, .inr (.inr (.inr (.inr (fun _ => none)))))), ((h 6), .inl ((cs 4), 3, .inr (.inr (.inr (.inr (fun _ => none)))))), ((h 7), .inl ((cs 0), 4, .inr (.inr (.inr (.inr fn))))), ((h 8), .inr (0, [.ref (h 102), .ref (h 103), .int 0])), ((h 9), .inl ((cs 8), 8, .inr (.inr (.inr (.inr fp))))), ((h 10), .inr (8, [.ref (h 11), .int 0, .ref (h 12), .ref (h 13), .int 0, .ref (h 14), .int 0, .ref (h 15), .int 0, .ref (h 16), .int 0])), ((h 11), .inl ((cs 7), 4, .inr (.inr (.inr (.inr (fun _ => none)))))), ((h 12), .inl ((cs 9), 10, .inr (.inr (.inr (.inr (fun _ => none)))))), ((h 13), .inl ((cs 4), 100, .inr (.inr (.inr (.inr (fun _ => none)))))), ((h 14), .inl ((cs 2), 4, .inr (.inr (.inr (.inr (fun _ => none)))))), ((h 15), .inl ((cs 4), 3, .inr (.inr (.inr (.inr (fun _ => none)))))), ((h 16), .inl ((cs 0), 4, .inr (.inr (.inr (.inr f0)))))] [((cs 7), .object RX7), ((cs 9), .object RX9), ((cs 4), .object RX4), ((cs 2), .object RX2), ((cs 0), .object RX0), ((cs 8), .object RX8)] sz)) (va_Qi (fun (r : Int32) (_ : Unit) => zS_turn p0 0 r) (fun _ t => zE D [] [] (va_A [((h 0), .inr (11, [.ref (h 1), .ref (h 9), .int 0, .int 0, .ref (h 20), .ref (h 37), .int 0, .ref (h 38), .ref (h 42), .ref (h 43), .ref (h 44), .ref (h 45), .ref (h 46), .ref (h 47), .ref (h 48)])), ((h 1), .inr (8, [.ref (h 2), .int 0, .ref (h 3), .ref (h 4), .int 0, .ref (h 5), .int 0, .ref (h 6), .int 0, .ref (h 7), .int 0])), ((h 2), .inl ((cs 7), 4, .inr (.inr (.inr (.inr (fun _ => none)))))), ((h 3), .inl ((cs 9), 10, .inr (.inr (.inr (.inr (fun _ => none)))))), ((h 4), .inl ((cs 4), 100, .inr (.inr (.inr (.inr (fun _ => none)))))), ((h 5), .inl ((cs 2), 4, .inr (.inr (.inr (.inr (fun _ => none)))))), ((h 6), .inl ((cs 4), 3, .inr (.inr (.inr (.inr (fun _ => none)))))), ((h 7), .inl ((cs 0), 4, .inr (.inr (.inr (.inr fn))))), ((h 8), .inr (0, [.ref (h 102), .ref (h 103), .int 0])), ((h 9), .inl ((cs 8), 8, .inr (.inr (.inr (.inr fp))))), ((h 10), .inr (8, [.ref (h 11), .int 0, .ref (h 12), .ref (h 13), .int 0, .ref (h 14), .int 0, .ref (h 15), .int 0, .ref (h 16), .int 0])), ((h 11), .inl ((cs 7), 4, .inr (.inr (.inr (.inr (fun _ => none)))))), ((h 12), .inl ((cs 9), 10, .inr (.inr (.inr (.inr (fun _ => none)))))), ((h 13), .inl ((cs 4), 100, .inr (.inr (.inr (.inr (fun _ => none)))))), ((h 14), .inl ((cs 2), 4, .inr (.inr (.inr (.inr (fun _ => none)))))), ((h 15), .inl ((cs 4), 3, .inr (.inr (.inr (.inr (fun _ => none)))))), ((h 16), .inl ((cs 0), 4, .inr (.inr (.inr (.inr f0)))))] sz) t) (va_A [((h 0), .inr (11, [.ref (h 1), .ref (h 9), .int 0, .int 0, .ref (h 20), .ref (h 37), .int 0, .ref (h 38), .ref (h 42), .ref (h 43), .ref (h 44), .ref (h 45), .ref (h 46), .ref (h 47), .ref (h 48)])), ((h 1), .inr (8, [.ref (h 2), .int 0, .ref (h 3), .ref (h 4), .int 0, .ref (h 5), .int 0, .ref (h 6), .int 0, .ref (h 7), .int 0])), ((h 2), .inl ((cs 7), 4, .inr (.inr (.inr (.inr (fun _ => none)))))), ((h 3), .inl ((cs 9), 10, .inr (.inr (.inr (.inr (fun _ => none)))))), ((h 4), .inl ((cs 4), 100, .inr (.inr (.inr (.inr (fun _ => none)))))), ((h 5), .inl ((cs 2), 4, .inr (.inr (.inr (.inr (fun _ => none)))))), ((h 6), .inl ((cs 4), 3, .inr (.inr (.inr (.inr (fun _ => none)))))), ((h 7), .inl ((cs 0), 4, .inr (.inr (.inr (.inr fn))))), ((h 8), .inr (0, [.ref (h 102), .ref (h 103), .int 0])), ((h 9), .inl ((cs 8), 8, .inr (.inr (.inr (.inr fp))))), ((h 10), .inr (8, [.ref (h 11), .int 0, .ref (h 12), .ref (h 13), .int 0, .ref (h 14), .int 0, .ref (h 15), .int 0, .ref (h 16), .int 0])), ((h 11), .inl ((cs 7), 4, .inr (.inr (.inr (.inr (fun _ => none)))))), ((h 12), .inl ((cs 9), 10, .inr (.inr (.inr (.inr (fun _ => none)))))), ((h 13), .inl ((cs 4), 100, .inr (.inr (.inr (.inr (fun _ => none)))))), ((h 14), .inl ((cs 2), 4, .inr (.inr (.inr (.inr (fun _ => none)))))), ((h 15), .inl ((cs 4), 3, .inr (.inr (.inr (.inr (fun _ => none)))))), ((h 16), .inl ((cs 0), 4, .inr (.inr (.inr (.inr f0)))))] sz)) (vx_X (fun _ : Unit => True) (fun E _ _ => (E = "java/lang/IndexOutOfBoundsException" ∧ zS_turn p0 1 0)) (va_A [((h 0), .inr (11, [.ref (h 1), .ref (h 9), .int 0, .int 0, .ref (h 20), .ref (h 37), .int 0, .ref (h 38), .ref (h 42), .ref (h 43), .ref (h 44), .ref (h 45), .ref (h 46), .ref (h 47), .ref (h 48)])), ((h 1), .inr (8, [.ref (h 2), .int 0, .ref (h 3), .ref (h 4), .int 0, .ref (h 5), .int 0, .ref (h 6), .int 0, .ref (h 7), .int 0])), ((h 2), .inl ((cs 7), 4, .inr (.inr (.inr (.inr (fun _ => none)))))), ((h 3), .inl ((cs 9), 10, .inr (.inr (.inr (.inr (fun _ => none)))))), ((h 4), .inl ((cs 4), 100, .inr (.inr (.inr (.inr (fun _ => none)))))), ((h 5), .inl ((cs 2), 4, .inr (.inr (.inr (.inr (fun _ => none)))))), ((h 6), .inl ((cs 4), 3, .inr (.inr (.inr (.inr (fun _ => none)))))), ((h 7), .inl ((cs 0), 4, .inr (.inr (.inr (.inr fn))))), ((h 8), .inr (0, [.ref (h 102), .ref (h 103), .int 0])), ((h 9), .inl ((cs 8), 8, .inr (.inr (.inr (.inr fp))))), ((h 10), .inr (8, [.ref (h 11), .int 0, .ref (h 12), .ref (h 13), .int 0, .ref (h 14), .int 0, .ref (h 15), .int 0, .ref (h 16), .int 0])), ((h 11), .inl ((cs 7), 4, .inr (.inr (.inr (.inr (fun _ => none)))))), ((h 12), .inl ((cs 9), 10, .inr (.inr (.inr (.inr (fun _ => none)))))), ((h 13), .inl ((cs 4), 100, .inr (.inr (.inr (.inr (fun _ => none)))))), ((h 14), .inl ((cs 2), 4, .inr (.inr (.inr (.inr (fun _ => none)))))), ((h 15), .inl ((cs 4), 3, .inr (.inr (.inr (.inr (fun _ => none)))))), ((h 16), .inl ((cs 0), 4, .inr (.inr (.inr (.inr f0)))))] sz)) 4 33 (va_A [((h 0), .inr (11, [.ref (h 1), .ref (h 9), .int 0, .int 0, .ref (h 20), .ref (h 37), .int 0, .ref (h 38), .ref (h 42), .ref (h 43), .ref (h 44), .ref (h 45), .ref (h 46), .ref (h 47), .ref (h 48)])), ((h 1), .inr (8, [.ref (h 2), .int 0, .ref (h 3), .ref (h 4), .int 0, .ref (h 5), .int 0, .ref (h 6), .int 0, .ref (h 7), .int 0])), ((h 2), .inl ((cs 7), 4, .inr (.inr (.inr (.inr (fun _ => none)))))), ((h 3), .inl ((cs 9), 10, .inr (.inr (.inr (.inr (fun _ => none)))))), ((h 4), .inl ((cs 4), 100, .inr (.inr (.inr (.inr (fun _ => none)))))), ((h 5), .inl ((cs 2), 4, .inr (.inr (.inr (.inr (fun _ => none)))))), ((h 6), .inl ((cs 4), 3, .inr (.inr (.inr (.inr (fun _ => none)))))), ((h 7), .inl ((cs 0), 4, .inr (.inr (.inr (.inr fn))))), ((h 8), .inr (0, [.ref (h 102), .ref (h 103), .int 0])), ((h 9), .inl ((cs 8), 8, .inr (.inr (.inr (.inr fp))))), ((h 10), .inr (8, [.ref (h 11), .int 0, .ref (h 12), .ref (h 13), .int 0, .ref (h 14), .int 0, .ref (h 15), .int 0, .ref (h 16), .int 0])), ((h 11), .inl ((cs 7), 4, .inr (.inr (.inr (.inr (fun _ => none)))))), ((h 12), .inl ((cs 9), 10, .inr (.inr (.inr (.inr (fun _ => none)))))), ((h 13), .inl ((cs 4), 100, .inr (.inr (.inr (.inr (fun _ => none)))))), ((h 14), .inl ((cs 2), 4, .inr (.inr (.inr (.inr (fun _ => none)))))), ((h 15), .inl ((cs 4), 3, .inr (.inr (.inr (.inr (fun _ => none)))))), ((h 16), .inl ((cs 0), 4, .inr (.inr (.inr (.inr f0)))))] sz) := by
  refine vx_ofW (cc := cX11_turn) (maxL := 2) (ret := (some .int)) (by decide) rfl ?_
  intro p e s m args below meth c s₁ B hml hexc hv
  obtain ⟨rfl, hEx, hsz, hP, hK, hD0⟩ := hv
  have hx := B.exec
  have hb := B.bytes
  have hr := B.returns
  have hts := atoms_spec (ws := (.code yX11_turn cX11_turn 2 (some .int) :: zT)) B.pre
  have ht : ∀ w ∈ zT, w.before _ s = true := fun w h => hts w (List.mem_cons_of_mem _ h)
  have hown : s.vm.findClass RX11 = some m.cls := findClass_of_methodNamed B.named
  have hlocks := B.notSynchronized
  subst hsz
  have hD := hD0.self (sz := s.heap.size)
  generalize hAe : va_A [((h 0), .inr (11, [.ref (h 1), .ref (h 9), .int 0, .int 0, .ref (h 20), .ref (h 37), .int 0, .ref (h 38), .ref (h 42), .ref (h 43), .ref (h 44), .ref (h 45), .ref (h 46), .ref (h 47), .ref (h 48)])), ((h 1), .inr (8, [.ref (h 2), .int 0, .ref (h 3), .ref (h 4), .int 0, .ref (h 5), .int 0, .ref (h 6), .int 0, .ref (h 7), .int 0])), ((h 2), .inl ((cs 7), 4, .inr (.inr (.inr (.inr (fun _ => none)))))), ((h 3), .inl ((cs 9), 10, .inr (.inr (.inr (.inr (fun _ => none)))))), ((h 4), .inl ((cs 4), 100, .inr (.inr (.inr (.inr (fun _ => none)))))), ((h 5), .inl ((cs 2), 4, .inr (.inr (.inr (.inr (fun _ => none)))))), ((h 6), .inl ((cs 4), 3, .inr (.inr (.inr (.inr (fun _ => none)))))), ((h 7), .inl ((cs 0), 4, .inr (.inr (.inr (.inr fn))))), ((h 8), .inr (0, [.ref (h 102), .ref (h 103), .int 0])), ((h 9), .inl ((cs 8), 8, .inr (.inr (.inr (.inr fp))))), ((h 10), .inr (8, [.ref (h 11), .int 0, .ref (h 12), .ref (h 13), .int 0, .ref (h 14), .int 0, .ref (h 15), .int 0, .ref (h 16), .int 0])), ((h 11), .inl ((cs 7), 4, .inr (.inr (.inr (.inr (fun _ => none)))))), ((h 12), .inl ((cs 9), 10, .inr (.inr (.inr (.inr (fun _ => none)))))), ((h 13), .inl ((cs 4), 100, .inr (.inr (.inr (.inr (fun _ => none)))))), ((h 14), .inl ((cs 2), 4, .inr (.inr (.inr (.inr (fun _ => none)))))), ((h 15), .inl ((cs 4), 3, .inr (.inr (.inr (.inr (fun _ => none)))))), ((h 16), .inl ((cs 0), 4, .inr (.inr (.inr (.inr f0)))))] s.heap.size = A at hD hEx ⊢
  have hA : ∀ q : Nat, s.heap.size ≤ q → A q := fun q h => by rw [← hAe]; exact Or.inr h
  have hS : va_S A s.heap s.heap [] := va_S.rf
  have hP : va_P D vwCl [((h 0), .inr (11, [.ref (h 1), .ref (h 9), .int 0, .int 0, .ref (h 20), .ref (h 37), .int 0, .ref (h 38), .ref (h 42), .ref (h 43), .ref (h 44), .ref (h 45), .ref (h 46), .ref (h 47), .ref (h 48)])), ((h 1), .inr (8, [.ref (h 2), .int 0, .ref (h 3), .ref (h 4), .int 0, .ref (h 5), .int 0, .ref (h 6), .int 0, .ref (h 7), .int 0])), ((h 2), .inl ((cs 7), 4, .inr (.inr (.inr (.inr (fun _ => none)))))), ((h 3), .inl ((cs 9), 10, .inr (.inr (.inr (.inr (fun _ => none)))))), ((h 4), .inl ((cs 4), 100, .inr (.inr (.inr (.inr (fun _ => none)))))), ((h 5), .inl ((cs 2), 4, .inr (.inr (.inr (.inr (fun _ => none)))))), ((h 6), .inl ((cs 4), 3, .inr (.inr (.inr (.inr (fun _ => none)))))), ((h 7), .inl ((cs 0), 4, .inr (.inr (.inr (.inr fn))))), ((h 8), .inr (0, [.ref (h 102), .ref (h 103), .int 0])), ((h 9), .inl ((cs 8), 8, .inr (.inr (.inr (.inr fp))))), ((h 10), .inr (8, [.ref (h 11), .int 0, .ref (h 12), .ref (h 13), .int 0, .ref (h 14), .int 0, .ref (h 15), .int 0, .ref (h 16), .int 0])), ((h 11), .inl ((cs 7), 4, .inr (.inr (.inr (.inr (fun _ => none)))))), ((h 12), .inl ((cs 9), 10, .inr (.inr (.inr (.inr (fun _ => none)))))), ((h 13), .inl ((cs 4), 100, .inr (.inr (.inr (.inr (fun _ => none)))))), ((h 14), .inl ((cs 2), 4, .inr (.inr (.inr (.inr (fun _ => none)))))), ((h 15), .inl ((cs 4), 3, .inr (.inr (.inr (.inr (fun _ => none)))))), ((h 16), .inl ((cs 0), 4, .inr (.inr (.inr (.inr f0)))))] s.heap := hP
  have hl := lv_entry ([.ref (h 0), .int p0]) (n := 2) (Nat.le_of_ble_eq_true rfl)
  rw [lg_entry_eq]
  generalize (lg_sl ([.ref (h 0), .int p0]) ++ List.replicate (2 - (lg_sl ([.ref (h 0), .int p0])).length) Slot.unset).toArray = ls at hl ⊢
  have hl : lv_has ls 2 [(0, .ref (h 0)), (1, .int p0)] := hl
  skip
  refine lv_iload_n hx hb dX11_turn_0 rfl (lv_at hl 1 rfl) ?_
  refine lv_iconst (v := 4) hx hb dX11_turn_1 (by decide) ?_
  have hPc := hP.sub (ws' := []) [] rfl
  have hDc := hD.sub (ws' := []) [] (by decide) rfl
  have hKc := hK.sub (tys' := []) [] rfl
  have hFc := va_free (wc := []) hD hS hA [] rfl
  refine vx_callv (vx_runS (As := [.int p0, .int 4]) (rest := []) ⟨hx, hb, hml, hown, ht⟩ (k_X11_checkIndex l hl0 _ D p0 4) (va_cwS 2 ht (zG_S zw_402 zw_403 zw_404 zw_405) rfl rfl rfl (by decide +kernel) ⟨Nat.le_of_ble_eq_true rfl, Nat.le_of_ble_eq_true rfl⟩) (zW_S hEx hS hFc hPc hKc hDc) rfl rfl hl.1 rfl (lv_room (Nat.le_of_ble_eq_true rfl)) dX11_turn_2 ⟨Nat.le_of_ble_eq_true rfl, Nat.le_of_ble_eq_true rfl⟩) hS (fun q _ h => hFc q h) hFc (fun q _ h => hFc q h) (fun E ce q9 uu t H1 locs1 ht0 hvm hpx hB hz1 hk1 hS hcell hv hcl => ?_) (fun u_1 t H1 locs ht0 hvm hw_1 hB hz1 hk1 hS => ?_)
  · exact vx_out (fun x hx => (hexc x hx).elim) hlocks hcell hv hcl (fun t2 h2 hv2 => ⟨(), trivial, (by obtain ⟨hE, hb9⟩ := hB; (try simp only [Int32.reduceToInt] at hb9); exact ⟨hE, (show zS_turn p0 1 0 from (.inl ⟨rfl, by omega⟩))⟩), hS.F h2⟩) hS.2.2 (Nat.le_of_ble_eq_true rfl) (Nat.le_of_ble_eq_true rfl)
  obtain ⟨hP1, hK1, hD1⟩ := hB
  rw [ht0] at hP1
  have hK1 := va_K.moved hvm.symm hK1
  obtain ⟨hP, hD⟩ := va_join (wr := [((h 0), .inr (11, [.ref (h 1), .ref (h 9), .int 0, .int 0, .ref (h 20), .ref (h 37), .int 0, .ref (h 38), .ref (h 42), .ref (h 43), .ref (h 44), .ref (h 45), .ref (h 46), .ref (h 47), .ref (h 48)])), ((h 1), .inr (8, [.ref (h 2), .int 0, .ref (h 3), .ref (h 4), .int 0, .ref (h 5), .int 0, .ref (h 6), .int 0, .ref (h 7), .int 0])), ((h 2), .inl ((cs 7), 4, .inr (.inr (.inr (.inr (fun _ => none)))))), ((h 3), .inl ((cs 9), 10, .inr (.inr (.inr (.inr (fun _ => none)))))), ((h 4), .inl ((cs 4), 100, .inr (.inr (.inr (.inr (fun _ => none)))))), ((h 5), .inl ((cs 2), 4, .inr (.inr (.inr (.inr (fun _ => none)))))), ((h 6), .inl ((cs 4), 3, .inr (.inr (.inr (.inr (fun _ => none)))))), ((h 7), .inl ((cs 0), 4, .inr (.inr (.inr (.inr fn))))), ((h 8), .inr (0, [.ref (h 102), .ref (h 103), .int 0])), ((h 9), .inl ((cs 8), 8, .inr (.inr (.inr (.inr fp))))), ((h 10), .inr (8, [.ref (h 11), .int 0, .ref (h 12), .ref (h 13), .int 0, .ref (h 14), .int 0, .ref (h 15), .int 0, .ref (h 16), .int 0])), ((h 11), .inl ((cs 7), 4, .inr (.inr (.inr (.inr (fun _ => none)))))), ((h 12), .inl ((cs 9), 10, .inr (.inr (.inr (.inr (fun _ => none)))))), ((h 13), .inl ((cs 4), 100, .inr (.inr (.inr (.inr (fun _ => none)))))), ((h 14), .inl ((cs 2), 4, .inr (.inr (.inr (.inr (fun _ => none)))))), ((h 15), .inl ((cs 4), 3, .inr (.inr (.inr (.inr (fun _ => none)))))), ((h 16), .inl ((cs 0), 4, .inr (.inr (.inr (.inr f0)))))]) (w1 := []) hP hD [] [0, 1, 2, 3, 4, 5, 6, 7, 8, 9, 10, 11, 12, 13, 14, 15, 16] rfl rfl (by decide) (by decide) hk1 hFc hP1 hD1
  generalize H1 = H at hP hS ⊢
  have hP : va_P D vwCl [((h 0), .inr (11, [.ref (h 1), .ref (h 9), .int 0, .int 0, .ref (h 20), .ref (h 37), .int 0, .ref (h 38), .ref (h 42), .ref (h 43), .ref (h 44), .ref (h 45), .ref (h 46), .ref (h 47), .ref (h 48)])), ((h 1), .inr (8, [.ref (h 2), .int 0, .ref (h 3), .ref (h 4), .int 0, .ref (h 5), .int 0, .ref (h 6), .int 0, .ref (h 7), .int 0])), ((h 2), .inl ((cs 7), 4, .inr (.inr (.inr (.inr (fun _ => none)))))), ((h 3), .inl ((cs 9), 10, .inr (.inr (.inr (.inr (fun _ => none)))))), ((h 4), .inl ((cs 4), 100, .inr (.inr (.inr (.inr (fun _ => none)))))), ((h 5), .inl ((cs 2), 4, .inr (.inr (.inr (.inr (fun _ => none)))))), ((h 6), .inl ((cs 4), 3, .inr (.inr (.inr (.inr (fun _ => none)))))), ((h 7), .inl ((cs 0), 4, .inr (.inr (.inr (.inr fn))))), ((h 8), .inr (0, [.ref (h 102), .ref (h 103), .int 0])), ((h 9), .inl ((cs 8), 8, .inr (.inr (.inr (.inr fp))))), ((h 10), .inr (8, [.ref (h 11), .int 0, .ref (h 12), .ref (h 13), .int 0, .ref (h 14), .int 0, .ref (h 15), .int 0, .ref (h 16), .int 0])), ((h 11), .inl ((cs 7), 4, .inr (.inr (.inr (.inr (fun _ => none)))))), ((h 12), .inl ((cs 9), 10, .inr (.inr (.inr (.inr (fun _ => none)))))), ((h 13), .inl ((cs 4), 100, .inr (.inr (.inr (.inr (fun _ => none)))))), ((h 14), .inl ((cs 2), 4, .inr (.inr (.inr (.inr (fun _ => none)))))), ((h 15), .inl ((cs 4), 3, .inr (.inr (.inr (.inr (fun _ => none)))))), ((h 16), .inl ((cs 0), 4, .inr (.inr (.inr (.inr f0)))))] H := hP
  have hD : va_D A [((h 0), .inr (11, [.ref (h 1), .ref (h 9), .int 0, .int 0, .ref (h 20), .ref (h 37), .int 0, .ref (h 38), .ref (h 42), .ref (h 43), .ref (h 44), .ref (h 45), .ref (h 46), .ref (h 47), .ref (h 48)])), ((h 1), .inr (8, [.ref (h 2), .int 0, .ref (h 3), .ref (h 4), .int 0, .ref (h 5), .int 0, .ref (h 6), .int 0, .ref (h 7), .int 0])), ((h 2), .inl ((cs 7), 4, .inr (.inr (.inr (.inr (fun _ => none)))))), ((h 3), .inl ((cs 9), 10, .inr (.inr (.inr (.inr (fun _ => none)))))), ((h 4), .inl ((cs 4), 100, .inr (.inr (.inr (.inr (fun _ => none)))))), ((h 5), .inl ((cs 2), 4, .inr (.inr (.inr (.inr (fun _ => none)))))), ((h 6), .inl ((cs 4), 3, .inr (.inr (.inr (.inr (fun _ => none)))))), ((h 7), .inl ((cs 0), 4, .inr (.inr (.inr (.inr fn))))), ((h 8), .inr (0, [.ref (h 102), .ref (h 103), .int 0])), ((h 9), .inl ((cs 8), 8, .inr (.inr (.inr (.inr fp))))), ((h 10), .inr (8, [.ref (h 11), .int 0, .ref (h 12), .ref (h 13), .int 0, .ref (h 14), .int 0, .ref (h 15), .int 0, .ref (h 16), .int 0])), ((h 11), .inl ((cs 7), 4, .inr (.inr (.inr (.inr (fun _ => none)))))), ((h 12), .inl ((cs 9), 10, .inr (.inr (.inr (.inr (fun _ => none)))))), ((h 13), .inl ((cs 4), 100, .inr (.inr (.inr (.inr (fun _ => none)))))), ((h 14), .inl ((cs 2), 4, .inr (.inr (.inr (.inr (fun _ => none)))))), ((h 15), .inl ((cs 4), 3, .inr (.inr (.inr (.inr (fun _ => none)))))), ((h 16), .inl ((cs 0), 4, .inr (.inr (.inr (.inr f0)))))] := hD
  refine W.widen (k := 1) (n := 6) (Nat.le_of_ble_eq_true rfl) (Nat.le_of_ble_eq_true rfl) ?_
  simp only [Int32.reduceToInt] at hw_1
  refine lv_aload_n hx hb dX11_turn_5 rfl (lv_at hl 0 rfl) ?_
  have hPc := hP.sub (ws' := [((h 0), .inr (11, [.ref (h 1), .ref (h 9), .int 0, .int 0, .ref (h 20), .ref (h 37), .int 0, .ref (h 38), .ref (h 42), .ref (h 43), .ref (h 44), .ref (h 45), .ref (h 46), .ref (h 47), .ref (h 48)])), ((h 1), .inr (8, [.ref (h 2), .int 0, .ref (h 3), .ref (h 4), .int 0, .ref (h 5), .int 0, .ref (h 6), .int 0, .ref (h 7), .int 0])), ((h 2), .inl ((cs 7), 4, .inr (.inr (.inr (.inr (fun _ => none)))))), ((h 3), .inl ((cs 9), 10, .inr (.inr (.inr (.inr (fun _ => none)))))), ((h 4), .inl ((cs 4), 100, .inr (.inr (.inr (.inr (fun _ => none)))))), ((h 5), .inl ((cs 2), 4, .inr (.inr (.inr (.inr (fun _ => none)))))), ((h 6), .inl ((cs 4), 3, .inr (.inr (.inr (.inr (fun _ => none)))))), ((h 7), .inl ((cs 0), 4, .inr (.inr (.inr (.inr fn))))), ((h 8), .inr (0, [.ref (h 102), .ref (h 103), .int 0])), ((h 9), .inl ((cs 8), 8, .inr (.inr (.inr (.inr fp))))), ((h 10), .inr (8, [.ref (h 11), .int 0, .ref (h 12), .ref (h 13), .int 0, .ref (h 14), .int 0, .ref (h 15), .int 0, .ref (h 16), .int 0])), ((h 11), .inl ((cs 7), 4, .inr (.inr (.inr (.inr (fun _ => none)))))), ((h 12), .inl ((cs 9), 10, .inr (.inr (.inr (.inr (fun _ => none)))))), ((h 13), .inl ((cs 4), 100, .inr (.inr (.inr (.inr (fun _ => none)))))), ((h 14), .inl ((cs 2), 4, .inr (.inr (.inr (.inr (fun _ => none)))))), ((h 15), .inl ((cs 4), 3, .inr (.inr (.inr (.inr (fun _ => none)))))), ((h 16), .inl ((cs 0), 4, .inr (.inr (.inr (.inr f0)))))]) [0, 1, 2, 3, 4, 5, 6, 7, 8, 9, 10, 11, 12, 13, 14, 15, 16] rfl
  have hDc := hD.sub (ws' := [((h 0), .inr (11, [.ref (h 1), .ref (h 9), .int 0, .int 0, .ref (h 20), .ref (h 37), .int 0, .ref (h 38), .ref (h 42), .ref (h 43), .ref (h 44), .ref (h 45), .ref (h 46), .ref (h 47), .ref (h 48)])), ((h 1), .inr (8, [.ref (h 2), .int 0, .ref (h 3), .ref (h 4), .int 0, .ref (h 5), .int 0, .ref (h 6), .int 0, .ref (h 7), .int 0])), ((h 2), .inl ((cs 7), 4, .inr (.inr (.inr (.inr (fun _ => none)))))), ((h 3), .inl ((cs 9), 10, .inr (.inr (.inr (.inr (fun _ => none)))))), ((h 4), .inl ((cs 4), 100, .inr (.inr (.inr (.inr (fun _ => none)))))), ((h 5), .inl ((cs 2), 4, .inr (.inr (.inr (.inr (fun _ => none)))))), ((h 6), .inl ((cs 4), 3, .inr (.inr (.inr (.inr (fun _ => none)))))), ((h 7), .inl ((cs 0), 4, .inr (.inr (.inr (.inr fn))))), ((h 8), .inr (0, [.ref (h 102), .ref (h 103), .int 0])), ((h 9), .inl ((cs 8), 8, .inr (.inr (.inr (.inr fp))))), ((h 10), .inr (8, [.ref (h 11), .int 0, .ref (h 12), .ref (h 13), .int 0, .ref (h 14), .int 0, .ref (h 15), .int 0, .ref (h 16), .int 0])), ((h 11), .inl ((cs 7), 4, .inr (.inr (.inr (.inr (fun _ => none)))))), ((h 12), .inl ((cs 9), 10, .inr (.inr (.inr (.inr (fun _ => none)))))), ((h 13), .inl ((cs 4), 100, .inr (.inr (.inr (.inr (fun _ => none)))))), ((h 14), .inl ((cs 2), 4, .inr (.inr (.inr (.inr (fun _ => none)))))), ((h 15), .inl ((cs 4), 3, .inr (.inr (.inr (.inr (fun _ => none)))))), ((h 16), .inl ((cs 0), 4, .inr (.inr (.inr (.inr f0)))))]) [0, 1, 2, 3, 4, 5, 6, 7, 8, 9, 10, 11, 12, 13, 14, 15, 16] (by decide) rfl
  have hKc := hK.sub (tys' := [((cs 7), .object RX7), ((cs 9), .object RX9), ((cs 4), .object RX4), ((cs 2), .object RX2), ((cs 0), .object RX0), ((cs 8), .object RX8)]) [0, 1, 2, 3, 4, 5] rfl
  have hFc := va_free (wc := [((h 0), .inr (11, [.ref (h 1), .ref (h 9), .int 0, .int 0, .ref (h 20), .ref (h 37), .int 0, .ref (h 38), .ref (h 42), .ref (h 43), .ref (h 44), .ref (h 45), .ref (h 46), .ref (h 47), .ref (h 48)])), ((h 1), .inr (8, [.ref (h 2), .int 0, .ref (h 3), .ref (h 4), .int 0, .ref (h 5), .int 0, .ref (h 6), .int 0, .ref (h 7), .int 0])), ((h 2), .inl ((cs 7), 4, .inr (.inr (.inr (.inr (fun _ => none)))))), ((h 3), .inl ((cs 9), 10, .inr (.inr (.inr (.inr (fun _ => none)))))), ((h 4), .inl ((cs 4), 100, .inr (.inr (.inr (.inr (fun _ => none)))))), ((h 5), .inl ((cs 2), 4, .inr (.inr (.inr (.inr (fun _ => none)))))), ((h 6), .inl ((cs 4), 3, .inr (.inr (.inr (.inr (fun _ => none)))))), ((h 7), .inl ((cs 0), 4, .inr (.inr (.inr (.inr fn))))), ((h 8), .inr (0, [.ref (h 102), .ref (h 103), .int 0])), ((h 9), .inl ((cs 8), 8, .inr (.inr (.inr (.inr fp))))), ((h 10), .inr (8, [.ref (h 11), .int 0, .ref (h 12), .ref (h 13), .int 0, .ref (h 14), .int 0, .ref (h 15), .int 0, .ref (h 16), .int 0])), ((h 11), .inl ((cs 7), 4, .inr (.inr (.inr (.inr (fun _ => none)))))), ((h 12), .inl ((cs 9), 10, .inr (.inr (.inr (.inr (fun _ => none)))))), ((h 13), .inl ((cs 4), 100, .inr (.inr (.inr (.inr (fun _ => none)))))), ((h 14), .inl ((cs 2), 4, .inr (.inr (.inr (.inr (fun _ => none)))))), ((h 15), .inl ((cs 4), 3, .inr (.inr (.inr (.inr (fun _ => none)))))), ((h 16), .inl ((cs 0), 4, .inr (.inr (.inr (.inr f0)))))]) hD hS hA [0, 1, 2, 3, 4, 5, 6, 7, 8, 9, 10, 11, 12, 13, 14, 15, 16] rfl
  refine va_callv (va_runV (As := []) (rest := []) ⟨hx, hb, hml, hown, ht⟩ (k_X11_keepForUndo l _ D h cs fn hn fp f0 hp) (cwV 0 ht (zG_V zw_486 zw_487 zw_488 zw_404 zw_489) rfl rfl rfl (by decide +kernel) ⟨Nat.le_of_ble_eq_true rfl, Nat.le_of_ble_eq_true rfl⟩) (zM_V (va_recv hK hP (ci := 11) (q0 := 0) rfl rfl) hPc hKc hDc) rfl rfl hl.1 rfl (lv_room (Nat.le_of_ble_eq_true rfl)) dX11_turn_6 ⟨Nat.le_of_ble_eq_true rfl, Nat.le_of_ble_eq_true rfl⟩) hS (fun q _ h => hFc q h) hFc (fun u_2 t H1 locs ht0 hvm hw_2 hB hz1 hk1 hS => ?_)
  obtain ⟨hP1, hK1, hD1⟩ := hB
  rw [ht0] at hP1
  have hK1 := va_K.moved hvm.symm hK1
  obtain ⟨hP, hD⟩ := va_join (wr := []) (w1 := [((h 0), .inr (11, [.ref (h 1), .ref (h 9), .int 1, .int 1, .ref (h 20), .ref (h 37), .int 0, .ref (h 38), .ref (h 42), .ref (h 43), .ref (h 44), .ref (h 45), .ref (h 46), .ref (h 47), .ref (h 48)])), ((h 1), .inr (8, [.ref (h 2), .int 0, .ref (h 3), .ref (h 4), .int 0, .ref (h 5), .int 0, .ref (h 6), .int 0, .ref (h 7), .int 0])), ((h 2), .inl ((cs 7), 4, .inr (.inr (.inr (.inr (fun _ => none)))))), ((h 3), .inl ((cs 9), 10, .inr (.inr (.inr (.inr (fun _ => none)))))), ((h 4), .inl ((cs 4), 100, .inr (.inr (.inr (.inr (fun _ => none)))))), ((h 5), .inl ((cs 2), 4, .inr (.inr (.inr (.inr (fun _ => none)))))), ((h 6), .inl ((cs 4), 3, .inr (.inr (.inr (.inr (fun _ => none)))))), ((h 7), .inl ((cs 0), 4, .inr (.inr (.inr (.inr fn))))), ((h 8), .inr (0, [.ref (h 102), .ref (h 103), .int 0])), ((h 9), .inl ((cs 8), 8, .inr (.inr (.inr (.inr fp))))), ((h 10), .inr (8, [.ref (h 11), .int 0, .ref (h 12), .ref (h 13), .int 0, .ref (h 14), .int 0, .ref (h 15), .int 0, .ref (h 16), .int 0])), ((h 11), .inl ((cs 7), 4, .inr (.inr (.inr (.inr (fun _ => none)))))), ((h 12), .inl ((cs 9), 10, .inr (.inr (.inr (.inr (fun _ => none)))))), ((h 13), .inl ((cs 4), 100, .inr (.inr (.inr (.inr (fun _ => none)))))), ((h 14), .inl ((cs 2), 4, .inr (.inr (.inr (.inr (fun _ => none)))))), ((h 15), .inl ((cs 4), 3, .inr (.inr (.inr (.inr (fun _ => none)))))), ((h 16), .inl ((cs 0), 4, .inr (.inr (.inr (.inr (va_up (va_up (va_up (va_up f0 0 (some (h 8))) 1 (some (h 8))) 2 (some (h 8))) 3 (some (h 8))))))))]) hP hD [0, 1, 2, 3, 4, 5, 6, 7, 8, 9, 10, 11, 12, 13, 14, 15, 16] [] rfl rfl (by decide) (by decide) hk1 hFc hP1 hD1
  generalize H1 = H at hP hS ⊢
  have hP : va_P D vwCl [((h 0), .inr (11, [.ref (h 1), .ref (h 9), .int 1, .int 1, .ref (h 20), .ref (h 37), .int 0, .ref (h 38), .ref (h 42), .ref (h 43), .ref (h 44), .ref (h 45), .ref (h 46), .ref (h 47), .ref (h 48)])), ((h 1), .inr (8, [.ref (h 2), .int 0, .ref (h 3), .ref (h 4), .int 0, .ref (h 5), .int 0, .ref (h 6), .int 0, .ref (h 7), .int 0])), ((h 2), .inl ((cs 7), 4, .inr (.inr (.inr (.inr (fun _ => none)))))), ((h 3), .inl ((cs 9), 10, .inr (.inr (.inr (.inr (fun _ => none)))))), ((h 4), .inl ((cs 4), 100, .inr (.inr (.inr (.inr (fun _ => none)))))), ((h 5), .inl ((cs 2), 4, .inr (.inr (.inr (.inr (fun _ => none)))))), ((h 6), .inl ((cs 4), 3, .inr (.inr (.inr (.inr (fun _ => none)))))), ((h 7), .inl ((cs 0), 4, .inr (.inr (.inr (.inr fn))))), ((h 8), .inr (0, [.ref (h 102), .ref (h 103), .int 0])), ((h 9), .inl ((cs 8), 8, .inr (.inr (.inr (.inr fp))))), ((h 10), .inr (8, [.ref (h 11), .int 0, .ref (h 12), .ref (h 13), .int 0, .ref (h 14), .int 0, .ref (h 15), .int 0, .ref (h 16), .int 0])), ((h 11), .inl ((cs 7), 4, .inr (.inr (.inr (.inr (fun _ => none)))))), ((h 12), .inl ((cs 9), 10, .inr (.inr (.inr (.inr (fun _ => none)))))), ((h 13), .inl ((cs 4), 100, .inr (.inr (.inr (.inr (fun _ => none)))))), ((h 14), .inl ((cs 2), 4, .inr (.inr (.inr (.inr (fun _ => none)))))), ((h 15), .inl ((cs 4), 3, .inr (.inr (.inr (.inr (fun _ => none)))))), ((h 16), .inl ((cs 0), 4, .inr (.inr (.inr (.inr (va_up (va_up (va_up (va_up f0 0 (some (h 8))) 1 (some (h 8))) 2 (some (h 8))) 3 (some (h 8))))))))] H := hP
  have hD : va_D A [((h 0), .inr (11, [.ref (h 1), .ref (h 9), .int 1, .int 1, .ref (h 20), .ref (h 37), .int 0, .ref (h 38), .ref (h 42), .ref (h 43), .ref (h 44), .ref (h 45), .ref (h 46), .ref (h 47), .ref (h 48)])), ((h 1), .inr (8, [.ref (h 2), .int 0, .ref (h 3), .ref (h 4), .int 0, .ref (h 5), .int 0, .ref (h 6), .int 0, .ref (h 7), .int 0])), ((h 2), .inl ((cs 7), 4, .inr (.inr (.inr (.inr (fun _ => none)))))), ((h 3), .inl ((cs 9), 10, .inr (.inr (.inr (.inr (fun _ => none)))))), ((h 4), .inl ((cs 4), 100, .inr (.inr (.inr (.inr (fun _ => none)))))), ((h 5), .inl ((cs 2), 4, .inr (.inr (.inr (.inr (fun _ => none)))))), ((h 6), .inl ((cs 4), 3, .inr (.inr (.inr (.inr (fun _ => none)))))), ((h 7), .inl ((cs 0), 4, .inr (.inr (.inr (.inr fn))))), ((h 8), .inr (0, [.ref (h 102), .ref (h 103), .int 0])), ((h 9), .inl ((cs 8), 8, .inr (.inr (.inr (.inr fp))))), ((h 10), .inr (8, [.ref (h 11), .int 0, .ref (h 12), .ref (h 13), .int 0, .ref (h 14), .int 0, .ref (h 15), .int 0, .ref (h 16), .int 0])), ((h 11), .inl ((cs 7), 4, .inr (.inr (.inr (.inr (fun _ => none)))))), ((h 12), .inl ((cs 9), 10, .inr (.inr (.inr (.inr (fun _ => none)))))), ((h 13), .inl ((cs 4), 100, .inr (.inr (.inr (.inr (fun _ => none)))))), ((h 14), .inl ((cs 2), 4, .inr (.inr (.inr (.inr (fun _ => none)))))), ((h 15), .inl ((cs 4), 3, .inr (.inr (.inr (.inr (fun _ => none)))))), ((h 16), .inl ((cs 0), 4, .inr (.inr (.inr (.inr (va_up (va_up (va_up (va_up f0 0 (some (h 8))) 1 (some (h 8))) 2 (some (h 8))) 3 (some (h 8))))))))] := hD
  refine lv_aload_n hx hb dX11_turn_9 rfl (lv_at hl 0 rfl) ?_
  refine va_get (D := D) (ci := 11) (v := .ref (h 1)) (C := RX11) (T := TX11) (N := 15) hx hb ht zinX11 hown hK hP 0 rfl rfl 0 (by decide) (ht _ zw_353) (fun _ h9 => h9) rfl dX11_turn_10 ?_
  refine va_get (D := D) (ci := 8) (v := .ref (h 7)) (C := RX8) (T := TX8) (N := 11) hx hb ht zinX8 hown hK hP 1 rfl rfl 9 (by decide) (ht _ zw_452) (fun _ h9 => h9) rfl dX11_turn_13 ?_
  refine lv_iload_n hx hb dX11_turn_16 rfl (lv_at hl 1 rfl) ?_
  refine lv_aload_n hx hb dX11_turn_17 rfl (lv_at hl 0 rfl) ?_
  refine va_get (D := D) (ci := 11) (v := .ref (h 1)) (C := RX11) (T := TX11) (N := 15) hx hb ht zinX11 hown hK hP 0 rfl rfl 0 (by decide) (ht _ zw_353) (fun _ h9 => h9) rfl dX11_turn_18 ?_
  refine va_get (D := D) (ci := 8) (v := .ref (h 7)) (C := RX8) (T := TX8) (N := 11) hx hb ht zinX8 hown hK hP 1 rfl rfl 9 (by decide) (ht _ zw_452) (fun _ h9 => h9) rfl dX11_turn_21 ?_
  refine lv_iload_n hx hb dX11_turn_24 rfl (lv_at hl 1 rfl) ?_
  refine va_aldq hx hb hK hP 7 4 rfl rfl (vp_in_iff.mpr ⟨hw_1.1, by have hq := hw_1.2; omega⟩) dX11_turn_25 ?_
  refine W.eq (g2 := F0 m 26 ls (.ref (h 8) :: .int p0 :: .ref (h 7) :: [])) (by show F0 m _ ls (va_rf (fn p0.toNatClampNeg) :: _) = _; rw [hn _ (by exact zcl4 (by omega) (by omega))]; rfl) ?_
  have hPc := hP.sub (ws' := [((h 8), .inr (0, [.ref (h 102), .ref (h 103), .int 0]))]) [8] rfl
  have hDc := hD.sub (ws' := [((h 8), .inr (0, [.ref (h 102), .ref (h 103), .int 0]))]) [8] (by decide) rfl
  have hKc := hK.sub (tys' := []) [] rfl
  have hFc := va_free (wc := [((h 8), .inr (0, [.ref (h 102), .ref (h 103), .int 0]))]) hD hS hA [8] rfl
  refine va_callq (va_runV (As := []) (rest := [.int p0, .ref (h 7)]) ⟨hx, hb, hml, hown, ht⟩ (k_X0_turned l _ D h cs) (cwV 0 ht (zG_V zw_504 zw_505 zw_506 zw_202 zw_507) rfl rfl rfl (by decide +kernel) ⟨Nat.le_of_ble_eq_true rfl, Nat.le_of_ble_eq_true rfl⟩) (zXw_V (fun _ _ => zTab.warm) (va_recv hK hP (ci := 0) (q0 := 8) rfl rfl) hEx.1 hPc hKc hDc) rfl rfl hl.1 rfl (lv_room (Nat.le_of_ble_eq_true rfl)) dX11_turn_26 ⟨Nat.le_of_ble_eq_true rfl, Nat.le_of_ble_eq_true rfl⟩) hS (fun q _ h => hFc q h) hFc (fun r_4 u_4 t H1 locs ht0 hvm hw_4 hB hz1 hk1 hS => ?_)
  obtain ⟨qa_4, qb_4, hB⟩ := hB
  obtain ⟨hP1, hK1, hD1⟩ := hB
  rw [ht0] at hP1
  have hK1 := va_K.moved hvm.symm hK1
  obtain ⟨hP, hD⟩ := va_join (wr := [((h 0), .inr (11, [.ref (h 1), .ref (h 9), .int 1, .int 1, .ref (h 20), .ref (h 37), .int 0, .ref (h 38), .ref (h 42), .ref (h 43), .ref (h 44), .ref (h 45), .ref (h 46), .ref (h 47), .ref (h 48)])), ((h 1), .inr (8, [.ref (h 2), .int 0, .ref (h 3), .ref (h 4), .int 0, .ref (h 5), .int 0, .ref (h 6), .int 0, .ref (h 7), .int 0])), ((h 2), .inl ((cs 7), 4, .inr (.inr (.inr (.inr (fun _ => none)))))), ((h 3), .inl ((cs 9), 10, .inr (.inr (.inr (.inr (fun _ => none)))))), ((h 4), .inl ((cs 4), 100, .inr (.inr (.inr (.inr (fun _ => none)))))), ((h 5), .inl ((cs 2), 4, .inr (.inr (.inr (.inr (fun _ => none)))))), ((h 6), .inl ((cs 4), 3, .inr (.inr (.inr (.inr (fun _ => none)))))), ((h 7), .inl ((cs 0), 4, .inr (.inr (.inr (.inr fn))))), ((h 9), .inl ((cs 8), 8, .inr (.inr (.inr (.inr fp))))), ((h 10), .inr (8, [.ref (h 11), .int 0, .ref (h 12), .ref (h 13), .int 0, .ref (h 14), .int 0, .ref (h 15), .int 0, .ref (h 16), .int 0])), ((h 11), .inl ((cs 7), 4, .inr (.inr (.inr (.inr (fun _ => none)))))), ((h 12), .inl ((cs 9), 10, .inr (.inr (.inr (.inr (fun _ => none)))))), ((h 13), .inl ((cs 4), 100, .inr (.inr (.inr (.inr (fun _ => none)))))), ((h 14), .inl ((cs 2), 4, .inr (.inr (.inr (.inr (fun _ => none)))))), ((h 15), .inl ((cs 4), 3, .inr (.inr (.inr (.inr (fun _ => none)))))), ((h 16), .inl ((cs 0), 4, .inr (.inr (.inr (.inr (va_up (va_up (va_up (va_up f0 0 (some (h 8))) 1 (some (h 8))) 2 (some (h 8))) 3 (some (h 8))))))))]) (w1 := [((h 8), .inr (0, [.ref (h 102), .ref (h 103), .int 0])), (u_4, .inr (0, [.ref qa_4, .ref qb_4, .int 0]))]) hP hD [8] [0, 1, 2, 3, 4, 5, 6, 7, 9, 10, 11, 12, 13, 14, 15, 16] rfl rfl (by decide) (by decide) hk1 hFc hP1 hD1
  generalize H1 = H at hP hS ⊢
  have hP : va_P D vwCl [((h 0), .inr (11, [.ref (h 1), .ref (h 9), .int 1, .int 1, .ref (h 20), .ref (h 37), .int 0, .ref (h 38), .ref (h 42), .ref (h 43), .ref (h 44), .ref (h 45), .ref (h 46), .ref (h 47), .ref (h 48)])), ((h 1), .inr (8, [.ref (h 2), .int 0, .ref (h 3), .ref (h 4), .int 0, .ref (h 5), .int 0, .ref (h 6), .int 0, .ref (h 7), .int 0])), ((h 2), .inl ((cs 7), 4, .inr (.inr (.inr (.inr (fun _ => none)))))), ((h 3), .inl ((cs 9), 10, .inr (.inr (.inr (.inr (fun _ => none)))))), ((h 4), .inl ((cs 4), 100, .inr (.inr (.inr (.inr (fun _ => none)))))), ((h 5), .inl ((cs 2), 4, .inr (.inr (.inr (.inr (fun _ => none)))))), ((h 6), .inl ((cs 4), 3, .inr (.inr (.inr (.inr (fun _ => none)))))), ((h 7), .inl ((cs 0), 4, .inr (.inr (.inr (.inr fn))))), ((h 9), .inl ((cs 8), 8, .inr (.inr (.inr (.inr fp))))), ((h 10), .inr (8, [.ref (h 11), .int 0, .ref (h 12), .ref (h 13), .int 0, .ref (h 14), .int 0, .ref (h 15), .int 0, .ref (h 16), .int 0])), ((h 11), .inl ((cs 7), 4, .inr (.inr (.inr (.inr (fun _ => none)))))), ((h 12), .inl ((cs 9), 10, .inr (.inr (.inr (.inr (fun _ => none)))))), ((h 13), .inl ((cs 4), 100, .inr (.inr (.inr (.inr (fun _ => none)))))), ((h 14), .inl ((cs 2), 4, .inr (.inr (.inr (.inr (fun _ => none)))))), ((h 15), .inl ((cs 4), 3, .inr (.inr (.inr (.inr (fun _ => none)))))), ((h 16), .inl ((cs 0), 4, .inr (.inr (.inr (.inr (va_up (va_up (va_up (va_up f0 0 (some (h 8))) 1 (some (h 8))) 2 (some (h 8))) 3 (some (h 8)))))))), ((h 8), .inr (0, [.ref (h 102), .ref (h 103), .int 0])), (u_4, .inr (0, [.ref qa_4, .ref qb_4, .int 0]))] H := hP
  have hD : va_D A [((h 0), .inr (11, [.ref (h 1), .ref (h 9), .int 1, .int 1, .ref (h 20), .ref (h 37), .int 0, .ref (h 38), .ref (h 42), .ref (h 43), .ref (h 44), .ref (h 45), .ref (h 46), .ref (h 47), .ref (h 48)])), ((h 1), .inr (8, [.ref (h 2), .int 0, .ref (h 3), .ref (h 4), .int 0, .ref (h 5), .int 0, .ref (h 6), .int 0, .ref (h 7), .int 0])), ((h 2), .inl ((cs 7), 4, .inr (.inr (.inr (.inr (fun _ => none)))))), ((h 3), .inl ((cs 9), 10, .inr (.inr (.inr (.inr (fun _ => none)))))), ((h 4), .inl ((cs 4), 100, .inr (.inr (.inr (.inr (fun _ => none)))))), ((h 5), .inl ((cs 2), 4, .inr (.inr (.inr (.inr (fun _ => none)))))), ((h 6), .inl ((cs 4), 3, .inr (.inr (.inr (.inr (fun _ => none)))))), ((h 7), .inl ((cs 0), 4, .inr (.inr (.inr (.inr fn))))), ((h 9), .inl ((cs 8), 8, .inr (.inr (.inr (.inr fp))))), ((h 10), .inr (8, [.ref (h 11), .int 0, .ref (h 12), .ref (h 13), .int 0, .ref (h 14), .int 0, .ref (h 15), .int 0, .ref (h 16), .int 0])), ((h 11), .inl ((cs 7), 4, .inr (.inr (.inr (.inr (fun _ => none)))))), ((h 12), .inl ((cs 9), 10, .inr (.inr (.inr (.inr (fun _ => none)))))), ((h 13), .inl ((cs 4), 100, .inr (.inr (.inr (.inr (fun _ => none)))))), ((h 14), .inl ((cs 2), 4, .inr (.inr (.inr (.inr (fun _ => none)))))), ((h 15), .inl ((cs 4), 3, .inr (.inr (.inr (.inr (fun _ => none)))))), ((h 16), .inl ((cs 0), 4, .inr (.inr (.inr (.inr (va_up (va_up (va_up (va_up f0 0 (some (h 8))) 1 (some (h 8))) 2 (some (h 8))) 3 (some (h 8)))))))), ((h 8), .inr (0, [.ref (h 102), .ref (h 103), .int 0])), (u_4, .inr (0, [.ref qa_4, .ref qb_4, .int 0]))] := hD
  refine W.widen (k := 4) (n := 33) (Nat.le_of_ble_eq_true rfl) (Nat.le_of_ble_eq_true rfl) ?_
  obtain rfl := hw_4
  refine W.eq (g2 := F0 m 29 ls (.ref u_4 :: .int p0 :: .ref (h 7) :: [])) rfl ?_
  refine va_astq (r := (RX0, TX0, 3)) hx hb hK hP hD hS 7 4 17 0 rfl rfl rfl rfl (vp_in_iff.mpr ⟨hw_1.1, by have hq := hw_1.2; omega⟩) dX11_turn_29 (fun H locs hP hD hS => ?_)
  have hP : va_P D vwCl [((h 0), .inr (11, [.ref (h 1), .ref (h 9), .int 1, .int 1, .ref (h 20), .ref (h 37), .int 0, .ref (h 38), .ref (h 42), .ref (h 43), .ref (h 44), .ref (h 45), .ref (h 46), .ref (h 47), .ref (h 48)])), ((h 1), .inr (8, [.ref (h 2), .int 0, .ref (h 3), .ref (h 4), .int 0, .ref (h 5), .int 0, .ref (h 6), .int 0, .ref (h 7), .int 0])), ((h 2), .inl ((cs 7), 4, .inr (.inr (.inr (.inr (fun _ => none)))))), ((h 3), .inl ((cs 9), 10, .inr (.inr (.inr (.inr (fun _ => none)))))), ((h 4), .inl ((cs 4), 100, .inr (.inr (.inr (.inr (fun _ => none)))))), ((h 5), .inl ((cs 2), 4, .inr (.inr (.inr (.inr (fun _ => none)))))), ((h 6), .inl ((cs 4), 3, .inr (.inr (.inr (.inr (fun _ => none)))))), ((h 7), .inl ((cs 0), 4, .inr (.inr (.inr (.inr (va_up fn p0.toNatClampNeg (some u_4))))))), ((h 9), .inl ((cs 8), 8, .inr (.inr (.inr (.inr fp))))), ((h 10), .inr (8, [.ref (h 11), .int 0, .ref (h 12), .ref (h 13), .int 0, .ref (h 14), .int 0, .ref (h 15), .int 0, .ref (h 16), .int 0])), ((h 11), .inl ((cs 7), 4, .inr (.inr (.inr (.inr (fun _ => none)))))), ((h 12), .inl ((cs 9), 10, .inr (.inr (.inr (.inr (fun _ => none)))))), ((h 13), .inl ((cs 4), 100, .inr (.inr (.inr (.inr (fun _ => none)))))), ((h 14), .inl ((cs 2), 4, .inr (.inr (.inr (.inr (fun _ => none)))))), ((h 15), .inl ((cs 4), 3, .inr (.inr (.inr (.inr (fun _ => none)))))), ((h 16), .inl ((cs 0), 4, .inr (.inr (.inr (.inr (va_up (va_up (va_up (va_up f0 0 (some (h 8))) 1 (some (h 8))) 2 (some (h 8))) 3 (some (h 8)))))))), ((h 8), .inr (0, [.ref (h 102), .ref (h 103), .int 0])), (u_4, .inr (0, [.ref qa_4, .ref qb_4, .int 0]))] H := hP
  have hD : va_D A [((h 0), .inr (11, [.ref (h 1), .ref (h 9), .int 1, .int 1, .ref (h 20), .ref (h 37), .int 0, .ref (h 38), .ref (h 42), .ref (h 43), .ref (h 44), .ref (h 45), .ref (h 46), .ref (h 47), .ref (h 48)])), ((h 1), .inr (8, [.ref (h 2), .int 0, .ref (h 3), .ref (h 4), .int 0, .ref (h 5), .int 0, .ref (h 6), .int 0, .ref (h 7), .int 0])), ((h 2), .inl ((cs 7), 4, .inr (.inr (.inr (.inr (fun _ => none)))))), ((h 3), .inl ((cs 9), 10, .inr (.inr (.inr (.inr (fun _ => none)))))), ((h 4), .inl ((cs 4), 100, .inr (.inr (.inr (.inr (fun _ => none)))))), ((h 5), .inl ((cs 2), 4, .inr (.inr (.inr (.inr (fun _ => none)))))), ((h 6), .inl ((cs 4), 3, .inr (.inr (.inr (.inr (fun _ => none)))))), ((h 7), .inl ((cs 0), 4, .inr (.inr (.inr (.inr (va_up fn p0.toNatClampNeg (some u_4))))))), ((h 9), .inl ((cs 8), 8, .inr (.inr (.inr (.inr fp))))), ((h 10), .inr (8, [.ref (h 11), .int 0, .ref (h 12), .ref (h 13), .int 0, .ref (h 14), .int 0, .ref (h 15), .int 0, .ref (h 16), .int 0])), ((h 11), .inl ((cs 7), 4, .inr (.inr (.inr (.inr (fun _ => none)))))), ((h 12), .inl ((cs 9), 10, .inr (.inr (.inr (.inr (fun _ => none)))))), ((h 13), .inl ((cs 4), 100, .inr (.inr (.inr (.inr (fun _ => none)))))), ((h 14), .inl ((cs 2), 4, .inr (.inr (.inr (.inr (fun _ => none)))))), ((h 15), .inl ((cs 4), 3, .inr (.inr (.inr (.inr (fun _ => none)))))), ((h 16), .inl ((cs 0), 4, .inr (.inr (.inr (.inr (va_up (va_up (va_up (va_up f0 0 (some (h 8))) 1 (some (h 8))) 2 (some (h 8))) 3 (some (h 8)))))))), ((h 8), .inr (0, [.ref (h 102), .ref (h 103), .int 0])), (u_4, .inr (0, [.ref qa_4, .ref qb_4, .int 0]))] := hD
  refine lv_aload_n hx hb dX11_turn_30 rfl (lv_at hl 0 rfl) ?_
  refine va_get (D := D) (ci := 11) (v := .ref (h 1)) (C := RX11) (T := TX11) (N := 15) hx hb ht zinX11 hown hK hP 0 rfl rfl 0 (by decide) (ht _ zw_353) (fun _ h9 => h9) rfl dX11_turn_31 ?_
  refine va_get (D := D) (ci := 8) (v := .ref (h 7)) (C := RX8) (T := TX8) (N := 11) hx hb ht zinX8 hown hK hP 1 rfl rfl 9 (by decide) (ht _ zw_452) (fun _ h9 => h9) rfl dX11_turn_34 ?_
  refine lv_iload_n hx hb dX11_turn_37 rfl (lv_at hl 1 rfl) ?_
  refine va_aldq hx hb hK hP 7 4 rfl rfl (vp_in_iff.mpr ⟨hw_1.1, by have hq := hw_1.2; omega⟩) dX11_turn_38 ?_
  refine W.eq (g2 := F0 m 39 ls (.ref u_4 :: [])) (by show F0 m _ ls (va_rf (va_up _ _ _ _) :: _) = _; rw [va_up_self]; rfl) ?_
  refine va_get (D := D) (ci := 0) (v := .int 0) (C := RX0) (T := TX0) (N := 3) hx hb ht zinX0 hown hK hP 17 rfl rfl 2 (by decide) (ht _ zw_453) (fun _ h9 => h9) rfl dX11_turn_39 ?_
  have hP9 := hP.sub (ws' := []) [] rfl
  have hD9 := hD.sub (ws' := []) [] (by decide) rfl
  have hK9 := hK.sub (tys' := []) [] rfl
  refine W.widen (k := 4) (n := 33) (Nat.le_of_ble_eq_true rfl) (Nat.le_of_ble_eq_true rfl) ?_
  refine vx_ret ?_
  exact W.iret (v := 0) hx hb hr (fun t ht0 hW => ⟨⟨0, (), rfl, (show zS_turn p0 0 0 from (.inr ⟨rfl, by omega, rfl⟩)), (zE_of hP9 hK9 hD9 ht0 hW)⟩, hS.F ht0⟩) hS.2.2 dX11_turn_42
set_option maxHeartbeats 4000000 in
set_option maxRecDepth 100000 in
theorem k_X11_image (l : Launch) (hl0 : l.stackTraces = false) (sz : Nat) (D : va_G) (h cs : Nat → Nat) (p0 : Int32) (fn : Nat → Option Nat) (hn : ∀ k : Nat, k < 4 → fn k = some (h 8)) (fi f1 f2 : Nat → Option Nat) (hi0 : fi 0 = some (h 21)) (hi1 : fi 1 = some (h 29)) : vx_Met l yX11_image (.code yX11_image cX11_image 3 (some .boolean) :: zT) ({ frames := 7, cells := 1, slots := 6, locals := 111 }) (va_Pc [.ref (h 0), .int p0] (zW D [((h 0), .inr (11, [.ref (h 1), .ref (h 9), .int 0, .int 0, .ref (h 20), .ref (h 37), .int 0, .ref (h 38), .ref (h 42), .ref (h 43), .ref (h 44), .ref (h 45), .ref (h 46), .ref (h 47), .ref (h 48)])), ((h 1), .inr (8, [.ref (h 2), .int 0, .ref (h 3), .ref (h 4), .int 0, .ref (h 5), .int 0, .ref (h 6), .int 0, .ref (h 7), .int 0])), ((h 2), .inl ((cs 7), 4, .inr (.inr (.inr (.inr (fun _ => none)))))), ((h 3), .inl ((cs 9), 10, .inr (.inr (.inr (.inr (fun _ => none)))))), ((h 4), .inl ((cs 4), 100, .inr (.inr (.inr (.inr (fun _ => none)))))), ((h 5), .inl ((cs 2), 4, .inr (.inr (.inr (.inr (fun _ => none)))))), ((h 6), .inl ((cs 4), 3, .inr (.inr (.inr (.inr (fun _ => none)))))), ((h 7), .inl ((cs 0), 4, .inr (.inr (.inr (.inr fn))))), ((h 8), .inr (0, [.ref (h 102), .ref (h 103), .int 0])), ((h 20), .inl ((cs 8), 2, .inr (.inr (.inr (.inr fi))))), ((h 21), .inr (8, [.ref (h 22), .int 0, .ref (h 23), .ref (h 24), .int 0, .ref (h 25), .int 0, .ref (h 26), .int 0, .ref (h 27), .int 0])), ((h 22), .inl ((cs 7), 4, .inr (.inr (.inr (.inr (fun _ => none)))))), ((h 23), .inl ((cs 9), 10, .inr (.inr (.inr (.inr (fun _ => none)))))), ((h 24), .inl ((cs 4), 100, .inr (.inr (.inr (.inr (fun _ => none)))))), ((h 25), .inl ((cs 2), 4, .inr (.inr (.inr (.inr (fun _ => none)))))), ((h 26), .inl ((cs 4), 3, .inr (.inr (.inr (.inr (fun _ => none)))))), ((h 27), .inl ((cs 0), 4, .inr (.inr (.inr (.inr f1))))), ((h 29), .inr (8, [.ref (h 30), .int 0, .ref (h 31), .ref (h 32), .int 0, .ref (h 33), .int 0, .ref (h 34), .int 0, .ref (h 35), .int 0])), ((h 30), .inl ((cs 7), 4, .inr (.inr (.inr (.inr (fun _ => none)))))), ((h 31), .inl ((cs 9), 10, .inr (.inr (.inr (.inr (fun _ => none)))))), ((h 32), .inl ((cs 4), 100, .inr (.inr (.inr (.inr (fun _ => none)))))), ((h 33), .inl ((cs 2), 4, .inr (.inr (.inr (.inr (fun _ => none)))))), ((h 34), .inl ((cs 4), 3, .inr (.inr (.inr (.inr (fun _ => none)))))), ((h 35), .inl ((cs 0), 4, .inr (.inr (.inr (.inr f2))))), ((h 37), .inl ((cs 14), 2, .inl zI0))] [((cs 7), .object RX7), ((cs 9), .object RX9), ((cs 4), .object RX4), ((cs 2), .object RX2), ((cs 0), .object RX0), ((cs 8), .object RX8), ((cs 14), .boolean)] sz)) (va_Qi (fun (r : Int32) (_ : Unit) => zS_image p0 0 r) (fun _ t => zE D [] [] (va_A [((h 0), .inr (11, [.ref (h 1), .ref (h 9), .int 0, .int 0, .ref (h 20), .ref (h 37), .int 0, .ref (h 38), .ref (h 42), .ref (h 43), .ref (h 44), .ref (h 45), .ref (h 46), .ref (h 47), .ref (h 48)])), ((h 1), .inr (8, [.ref (h 2), .int 0, .ref (h 3), .ref (h 4), .int 0, .ref (h 5), .int 0, .ref (h 6), .int 0, .ref (h 7), .int 0])), ((h 2), .inl ((cs 7), 4, .inr (.inr (.inr (.inr (fun _ => none)))))), ((h 3), .inl ((cs 9), 10, .inr (.inr (.inr (.inr (fun _ => none)))))), ((h 4), .inl ((cs 4), 100, .inr (.inr (.inr (.inr (fun _ => none)))))), ((h 5), .inl ((cs 2), 4, .inr (.inr (.inr (.inr (fun _ => none)))))), ((h 6), .inl ((cs 4), 3, .inr (.inr (.inr (.inr (fun _ => none)))))), ((h 7), .inl ((cs 0), 4, .inr (.inr (.inr (.inr fn))))), ((h 8), .inr (0, [.ref (h 102), .ref (h 103), .int 0])), ((h 20), .inl ((cs 8), 2, .inr (.inr (.inr (.inr fi))))), ((h 21), .inr (8, [.ref (h 22), .int 0, .ref (h 23), .ref (h 24), .int 0, .ref (h 25), .int 0, .ref (h 26), .int 0, .ref (h 27), .int 0])), ((h 22), .inl ((cs 7), 4, .inr (.inr (.inr (.inr (fun _ => none)))))), ((h 23), .inl ((cs 9), 10, .inr (.inr (.inr (.inr (fun _ => none)))))), ((h 24), .inl ((cs 4), 100, .inr (.inr (.inr (.inr (fun _ => none)))))), ((h 25), .inl ((cs 2), 4, .inr (.inr (.inr (.inr (fun _ => none)))))), ((h 26), .inl ((cs 4), 3, .inr (.inr (.inr (.inr (fun _ => none)))))), ((h 27), .inl ((cs 0), 4, .inr (.inr (.inr (.inr f1))))), ((h 29), .inr (8, [.ref (h 30), .int 0, .ref (h 31), .ref (h 32), .int 0, .ref (h 33), .int 0, .ref (h 34), .int 0, .ref (h 35), .int 0])), ((h 30), .inl ((cs 7), 4, .inr (.inr (.inr (.inr (fun _ => none)))))), ((h 31), .inl ((cs 9), 10, .inr (.inr (.inr (.inr (fun _ => none)))))), ((h 32), .inl ((cs 4), 100, .inr (.inr (.inr (.inr (fun _ => none)))))), ((h 33), .inl ((cs 2), 4, .inr (.inr (.inr (.inr (fun _ => none)))))), ((h 34), .inl ((cs 4), 3, .inr (.inr (.inr (.inr (fun _ => none)))))), ((h 35), .inl ((cs 0), 4, .inr (.inr (.inr (.inr f2))))), ((h 37), .inl ((cs 14), 2, .inl zI0))] sz) t) (va_A [((h 0), .inr (11, [.ref (h 1), .ref (h 9), .int 0, .int 0, .ref (h 20), .ref (h 37), .int 0, .ref (h 38), .ref (h 42), .ref (h 43), .ref (h 44), .ref (h 45), .ref (h 46), .ref (h 47), .ref (h 48)])), ((h 1), .inr (8, [.ref (h 2), .int 0, .ref (h 3), .ref (h 4), .int 0, .ref (h 5), .int 0, .ref (h 6), .int 0, .ref (h 7), .int 0])), ((h 2), .inl ((cs 7), 4, .inr (.inr (.inr (.inr (fun _ => none)))))), ((h 3), .inl ((cs 9), 10, .inr (.inr (.inr (.inr (fun _ => none)))))), ((h 4), .inl ((cs 4), 100, .inr (.inr (.inr (.inr (fun _ => none)))))), ((h 5), .inl ((cs 2), 4, .inr (.inr (.inr (.inr (fun _ => none)))))), ((h 6), .inl ((cs 4), 3, .inr (.inr (.inr (.inr (fun _ => none)))))), ((h 7), .inl ((cs 0), 4, .inr (.inr (.inr (.inr fn))))), ((h 8), .inr (0, [.ref (h 102), .ref (h 103), .int 0])), ((h 20), .inl ((cs 8), 2, .inr (.inr (.inr (.inr fi))))), ((h 21), .inr (8, [.ref (h 22), .int 0, .ref (h 23), .ref (h 24), .int 0, .ref (h 25), .int 0, .ref (h 26), .int 0, .ref (h 27), .int 0])), ((h 22), .inl ((cs 7), 4, .inr (.inr (.inr (.inr (fun _ => none)))))), ((h 23), .inl ((cs 9), 10, .inr (.inr (.inr (.inr (fun _ => none)))))), ((h 24), .inl ((cs 4), 100, .inr (.inr (.inr (.inr (fun _ => none)))))), ((h 25), .inl ((cs 2), 4, .inr (.inr (.inr (.inr (fun _ => none)))))), ((h 26), .inl ((cs 4), 3, .inr (.inr (.inr (.inr (fun _ => none)))))), ((h 27), .inl ((cs 0), 4, .inr (.inr (.inr (.inr f1))))), ((h 29), .inr (8, [.ref (h 30), .int 0, .ref (h 31), .ref (h 32), .int 0, .ref (h 33), .int 0, .ref (h 34), .int 0, .ref (h 35), .int 0])), ((h 30), .inl ((cs 7), 4, .inr (.inr (.inr (.inr (fun _ => none)))))), ((h 31), .inl ((cs 9), 10, .inr (.inr (.inr (.inr (fun _ => none)))))), ((h 32), .inl ((cs 4), 100, .inr (.inr (.inr (.inr (fun _ => none)))))), ((h 33), .inl ((cs 2), 4, .inr (.inr (.inr (.inr (fun _ => none)))))), ((h 34), .inl ((cs 4), 3, .inr (.inr (.inr (.inr (fun _ => none)))))), ((h 35), .inl ((cs 0), 4, .inr (.inr (.inr (.inr f2))))), ((h 37), .inl ((cs 14), 2, .inl zI0))] sz)) (vx_X (fun _ : Unit => True) (fun E _ _ => (E = "java/lang/IndexOutOfBoundsException" ∧ zS_image p0 1 0)) (va_A [((h 0), .inr (11, [.ref (h 1), .ref (h 9), .int 0, .int 0, .ref (h 20), .ref (h 37), .int 0, .ref (h 38), .ref (h 42), .ref (h 43), .ref (h 44), .ref (h 45), .ref (h 46), .ref (h 47), .ref (h 48)])), ((h 1), .inr (8, [.ref (h 2), .int 0, .ref (h 3), .ref (h 4), .int 0, .ref (h 5), .int 0, .ref (h 6), .int 0, .ref (h 7), .int 0])), ((h 2), .inl ((cs 7), 4, .inr (.inr (.inr (.inr (fun _ => none)))))), ((h 3), .inl ((cs 9), 10, .inr (.inr (.inr (.inr (fun _ => none)))))), ((h 4), .inl ((cs 4), 100, .inr (.inr (.inr (.inr (fun _ => none)))))), ((h 5), .inl ((cs 2), 4, .inr (.inr (.inr (.inr (fun _ => none)))))), ((h 6), .inl ((cs 4), 3, .inr (.inr (.inr (.inr (fun _ => none)))))), ((h 7), .inl ((cs 0), 4, .inr (.inr (.inr (.inr fn))))), ((h 8), .inr (0, [.ref (h 102), .ref (h 103), .int 0])), ((h 20), .inl ((cs 8), 2, .inr (.inr (.inr (.inr fi))))), ((h 21), .inr (8, [.ref (h 22), .int 0, .ref (h 23), .ref (h 24), .int 0, .ref (h 25), .int 0, .ref (h 26), .int 0, .ref (h 27), .int 0])), ((h 22), .inl ((cs 7), 4, .inr (.inr (.inr (.inr (fun _ => none)))))), ((h 23), .inl ((cs 9), 10, .inr (.inr (.inr (.inr (fun _ => none)))))), ((h 24), .inl ((cs 4), 100, .inr (.inr (.inr (.inr (fun _ => none)))))), ((h 25), .inl ((cs 2), 4, .inr (.inr (.inr (.inr (fun _ => none)))))), ((h 26), .inl ((cs 4), 3, .inr (.inr (.inr (.inr (fun _ => none)))))), ((h 27), .inl ((cs 0), 4, .inr (.inr (.inr (.inr f1))))), ((h 29), .inr (8, [.ref (h 30), .int 0, .ref (h 31), .ref (h 32), .int 0, .ref (h 33), .int 0, .ref (h 34), .int 0, .ref (h 35), .int 0])), ((h 30), .inl ((cs 7), 4, .inr (.inr (.inr (.inr (fun _ => none)))))), ((h 31), .inl ((cs 9), 10, .inr (.inr (.inr (.inr (fun _ => none)))))), ((h 32), .inl ((cs 4), 100, .inr (.inr (.inr (.inr (fun _ => none)))))), ((h 33), .inl ((cs 2), 4, .inr (.inr (.inr (.inr (fun _ => none)))))), ((h 34), .inl ((cs 4), 3, .inr (.inr (.inr (.inr (fun _ => none)))))), ((h 35), .inl ((cs 0), 4, .inr (.inr (.inr (.inr f2))))), ((h 37), .inl ((cs 14), 2, .inl zI0))] sz)) 1 6 (va_A [((h 0), .inr (11, [.ref (h 1), .ref (h 9), .int 0, .int 0, .ref (h 20), .ref (h 37), .int 0, .ref (h 38), .ref (h 42), .ref (h 43), .ref (h 44), .ref (h 45), .ref (h 46), .ref (h 47), .ref (h 48)])), ((h 1), .inr (8, [.ref (h 2), .int 0, .ref (h 3), .ref (h 4), .int 0, .ref (h 5), .int 0, .ref (h 6), .int 0, .ref (h 7), .int 0])), ((h 2), .inl ((cs 7), 4, .inr (.inr (.inr (.inr (fun _ => none)))))), ((h 3), .inl ((cs 9), 10, .inr (.inr (.inr (.inr (fun _ => none)))))), ((h 4), .inl ((cs 4), 100, .inr (.inr (.inr (.inr (fun _ => none)))))), ((h 5), .inl ((cs 2), 4, .inr (.inr (.inr (.inr (fun _ => none)))))), ((h 6), .inl ((cs 4), 3, .inr (.inr (.inr (.inr (fun _ => none)))))), ((h 7), .inl ((cs 0), 4, .inr (.inr (.inr (.inr fn))))), ((h 8), .inr (0, [.ref (h 102), .ref (h 103), .int 0])), ((h 20), .inl ((cs 8), 2, .inr (.inr (.inr (.inr fi))))), ((h 21), .inr (8, [.ref (h 22), .int 0, .ref (h 23), .ref (h 24), .int 0, .ref (h 25), .int 0, .ref (h 26), .int 0, .ref (h 27), .int 0])), ((h 22), .inl ((cs 7), 4, .inr (.inr (.inr (.inr (fun _ => none)))))), ((h 23), .inl ((cs 9), 10, .inr (.inr (.inr (.inr (fun _ => none)))))), ((h 24), .inl ((cs 4), 100, .inr (.inr (.inr (.inr (fun _ => none)))))), ((h 25), .inl ((cs 2), 4, .inr (.inr (.inr (.inr (fun _ => none)))))), ((h 26), .inl ((cs 4), 3, .inr (.inr (.inr (.inr (fun _ => none)))))), ((h 27), .inl ((cs 0), 4, .inr (.inr (.inr (.inr f1))))), ((h 29), .inr (8, [.ref (h 30), .int 0, .ref (h 31), .ref (h 32), .int 0, .ref (h 33), .int 0, .ref (h 34), .int 0, .ref (h 35), .int 0])), ((h 30), .inl ((cs 7), 4, .inr (.inr (.inr (.inr (fun _ => none)))))), ((h 31), .inl ((cs 9), 10, .inr (.inr (.inr (.inr (fun _ => none)))))), ((h 32), .inl ((cs 4), 100, .inr (.inr (.inr (.inr (fun _ => none)))))), ((h 33), .inl ((cs 2), 4, .inr (.inr (.inr (.inr (fun _ => none)))))), ((h 34), .inl ((cs 4), 3, .inr (.inr (.inr (.inr (fun _ => none)))))), ((h 35), .inl ((cs 0), 4, .inr (.inr (.inr (.inr f2))))), ((h 37), .inl ((cs 14), 2, .inl zI0))] sz) := by
  refine vx_ofW (cc := cX11_image) (maxL := 3) (ret := (some .boolean)) (by decide) rfl ?_
  intro p e s m args below meth c s₁ B hml hexc hv
  obtain ⟨rfl, hEx, hsz, hP, hK, hD0⟩ := hv
  have hx := B.exec
  have hb := B.bytes
  have hr := B.returns
  have hts := atoms_spec (ws := (.code yX11_image cX11_image 3 (some .boolean) :: zT)) B.pre
  have ht : ∀ w ∈ zT, w.before _ s = true := fun w h => hts w (List.mem_cons_of_mem _ h)
  have hown : s.vm.findClass RX11 = some m.cls := findClass_of_methodNamed B.named
  have hlocks := B.notSynchronized
  subst hsz
  have hD := hD0.self (sz := s.heap.size)
  generalize hAe : va_A [((h 0), .inr (11, [.ref (h 1), .ref (h 9), .int 0, .int 0, .ref (h 20), .ref (h 37), .int 0, .ref (h 38), .ref (h 42), .ref (h 43), .ref (h 44), .ref (h 45), .ref (h 46), .ref (h 47), .ref (h 48)])), ((h 1), .inr (8, [.ref (h 2), .int 0, .ref (h 3), .ref (h 4), .int 0, .ref (h 5), .int 0, .ref (h 6), .int 0, .ref (h 7), .int 0])), ((h 2), .inl ((cs 7), 4, .inr (.inr (.inr (.inr (fun _ => none)))))), ((h 3), .inl ((cs 9), 10, .inr (.inr (.inr (.inr (fun _ => none)))))), ((h 4), .inl ((cs 4), 100, .inr (.inr (.inr (.inr (fun _ => none)))))), ((h 5), .inl ((cs 2), 4, .inr (.inr (.inr (.inr (fun _ => none)))))), ((h 6), .inl ((cs 4), 3, .inr (.inr (.inr (.inr (fun _ => none)))))), ((h 7), .inl ((cs 0), 4, .inr (.inr (.inr (.inr fn))))), ((h 8), .inr (0, [.ref (h 102), .ref (h 103), .int 0])), ((h 20), .inl ((cs 8), 2, .inr (.inr (.inr (.inr fi))))), ((h 21), .inr (8, [.ref (h 22), .int 0, .ref (h 23), .ref (h 24), .int 0, .ref (h 25), .int 0, .ref (h 26), .int 0, .ref (h 27), .int 0])), ((h 22), .inl ((cs 7), 4, .inr (.inr (.inr (.inr (fun _ => none)))))), ((h 23), .inl ((cs 9), 10, .inr (.inr (.inr (.inr (fun _ => none)))))), ((h 24), .inl ((cs 4), 100, .inr (.inr (.inr (.inr (fun _ => none)))))), ((h 25), .inl ((cs 2), 4, .inr (.inr (.inr (.inr (fun _ => none)))))), ((h 26), .inl ((cs 4), 3, .inr (.inr (.inr (.inr (fun _ => none)))))), ((h 27), .inl ((cs 0), 4, .inr (.inr (.inr (.inr f1))))), ((h 29), .inr (8, [.ref (h 30), .int 0, .ref (h 31), .ref (h 32), .int 0, .ref (h 33), .int 0, .ref (h 34), .int 0, .ref (h 35), .int 0])), ((h 30), .inl ((cs 7), 4, .inr (.inr (.inr (.inr (fun _ => none)))))), ((h 31), .inl ((cs 9), 10, .inr (.inr (.inr (.inr (fun _ => none)))))), ((h 32), .inl ((cs 4), 100, .inr (.inr (.inr (.inr (fun _ => none)))))), ((h 33), .inl ((cs 2), 4, .inr (.inr (.inr (.inr (fun _ => none)))))), ((h 34), .inl ((cs 4), 3, .inr (.inr (.inr (.inr (fun _ => none)))))), ((h 35), .inl ((cs 0), 4, .inr (.inr (.inr (.inr f2))))), ((h 37), .inl ((cs 14), 2, .inl zI0))] s.heap.size = A at hD hEx ⊢
  have hA : ∀ q : Nat, s.heap.size ≤ q → A q := fun q h => by rw [← hAe]; exact Or.inr h
  have hS : va_S A s.heap s.heap [] := va_S.rf
  have hP : va_P D vwCl [((h 0), .inr (11, [.ref (h 1), .ref (h 9), .int 0, .int 0, .ref (h 20), .ref (h 37), .int 0, .ref (h 38), .ref (h 42), .ref (h 43), .ref (h 44), .ref (h 45), .ref (h 46), .ref (h 47), .ref (h 48)])), ((h 1), .inr (8, [.ref (h 2), .int 0, .ref (h 3), .ref (h 4), .int 0, .ref (h 5), .int 0, .ref (h 6), .int 0, .ref (h 7), .int 0])), ((h 2), .inl ((cs 7), 4, .inr (.inr (.inr (.inr (fun _ => none)))))), ((h 3), .inl ((cs 9), 10, .inr (.inr (.inr (.inr (fun _ => none)))))), ((h 4), .inl ((cs 4), 100, .inr (.inr (.inr (.inr (fun _ => none)))))), ((h 5), .inl ((cs 2), 4, .inr (.inr (.inr (.inr (fun _ => none)))))), ((h 6), .inl ((cs 4), 3, .inr (.inr (.inr (.inr (fun _ => none)))))), ((h 7), .inl ((cs 0), 4, .inr (.inr (.inr (.inr fn))))), ((h 8), .inr (0, [.ref (h 102), .ref (h 103), .int 0])), ((h 20), .inl ((cs 8), 2, .inr (.inr (.inr (.inr fi))))), ((h 21), .inr (8, [.ref (h 22), .int 0, .ref (h 23), .ref (h 24), .int 0, .ref (h 25), .int 0, .ref (h 26), .int 0, .ref (h 27), .int 0])), ((h 22), .inl ((cs 7), 4, .inr (.inr (.inr (.inr (fun _ => none)))))), ((h 23), .inl ((cs 9), 10, .inr (.inr (.inr (.inr (fun _ => none)))))), ((h 24), .inl ((cs 4), 100, .inr (.inr (.inr (.inr (fun _ => none)))))), ((h 25), .inl ((cs 2), 4, .inr (.inr (.inr (.inr (fun _ => none)))))), ((h 26), .inl ((cs 4), 3, .inr (.inr (.inr (.inr (fun _ => none)))))), ((h 27), .inl ((cs 0), 4, .inr (.inr (.inr (.inr f1))))), ((h 29), .inr (8, [.ref (h 30), .int 0, .ref (h 31), .ref (h 32), .int 0, .ref (h 33), .int 0, .ref (h 34), .int 0, .ref (h 35), .int 0])), ((h 30), .inl ((cs 7), 4, .inr (.inr (.inr (.inr (fun _ => none)))))), ((h 31), .inl ((cs 9), 10, .inr (.inr (.inr (.inr (fun _ => none)))))), ((h 32), .inl ((cs 4), 100, .inr (.inr (.inr (.inr (fun _ => none)))))), ((h 33), .inl ((cs 2), 4, .inr (.inr (.inr (.inr (fun _ => none)))))), ((h 34), .inl ((cs 4), 3, .inr (.inr (.inr (.inr (fun _ => none)))))), ((h 35), .inl ((cs 0), 4, .inr (.inr (.inr (.inr f2))))), ((h 37), .inl ((cs 14), 2, .inl zI0))] s.heap := hP
  have hl := lv_entry ([.ref (h 0), .int p0]) (n := 3) (Nat.le_of_ble_eq_true rfl)
  rw [lg_entry_eq]
  generalize (lg_sl ([.ref (h 0), .int p0]) ++ List.replicate (3 - (lg_sl ([.ref (h 0), .int p0])).length) Slot.unset).toArray = ls at hl ⊢
  have hl : lv_has ls 3 [(0, .ref (h 0)), (1, .int p0)] := hl
  skip
  refine lv_iload_n hx hb dX11_image_0 rfl (lv_at hl 1 rfl) ?_
  refine lv_iconst (v := 2) hx hb dX11_image_1 (by decide) ?_
  have hPc := hP.sub (ws' := []) [] rfl
  have hDc := hD.sub (ws' := []) [] (by decide) rfl
  have hKc := hK.sub (tys' := []) [] rfl
  have hFc := va_free (wc := []) hD hS hA [] rfl
  refine vx_callv (vx_runS (As := [.int p0, .int 2]) (rest := []) ⟨hx, hb, hml, hown, ht⟩ (k_X11_checkIndex l hl0 _ D p0 2) (va_cwS 2 ht (zG_S zw_402 zw_403 zw_404 zw_405) rfl rfl rfl (by decide +kernel) ⟨Nat.le_of_ble_eq_true rfl, Nat.le_of_ble_eq_true rfl⟩) (zW_S hEx hS hFc hPc hKc hDc) rfl rfl hl.1 rfl (lv_room (Nat.le_of_ble_eq_true rfl)) dX11_image_2 ⟨Nat.le_of_ble_eq_true rfl, Nat.le_of_ble_eq_true rfl⟩) hS (fun q _ h => hFc q h) hFc (fun q _ h => hFc q h) (fun E ce q9 uu t H1 locs1 ht0 hvm hpx hB hz1 hk1 hS hcell hv hcl => ?_) (fun u_1 t H1 locs ht0 hvm hw_1 hB hz1 hk1 hS => ?_)
  · exact vx_out (fun x hx => (hexc x hx).elim) hlocks hcell hv hcl (fun t2 h2 hv2 => ⟨(), trivial, (by obtain ⟨hE, hb9⟩ := hB; (try simp only [Int32.reduceToInt] at hb9); exact ⟨hE, (show zS_image p0 1 0 from (.inl ⟨rfl, by omega⟩))⟩), hS.F h2⟩) hS.2.2 (Nat.le_of_ble_eq_true rfl) (Nat.le_of_ble_eq_true rfl)
  obtain ⟨hP1, hK1, hD1⟩ := hB
  rw [ht0] at hP1
  have hK1 := va_K.moved hvm.symm hK1
  obtain ⟨hP, hD⟩ := va_join (wr := [((h 0), .inr (11, [.ref (h 1), .ref (h 9), .int 0, .int 0, .ref (h 20), .ref (h 37), .int 0, .ref (h 38), .ref (h 42), .ref (h 43), .ref (h 44), .ref (h 45), .ref (h 46), .ref (h 47), .ref (h 48)])), ((h 1), .inr (8, [.ref (h 2), .int 0, .ref (h 3), .ref (h 4), .int 0, .ref (h 5), .int 0, .ref (h 6), .int 0, .ref (h 7), .int 0])), ((h 2), .inl ((cs 7), 4, .inr (.inr (.inr (.inr (fun _ => none)))))), ((h 3), .inl ((cs 9), 10, .inr (.inr (.inr (.inr (fun _ => none)))))), ((h 4), .inl ((cs 4), 100, .inr (.inr (.inr (.inr (fun _ => none)))))), ((h 5), .inl ((cs 2), 4, .inr (.inr (.inr (.inr (fun _ => none)))))), ((h 6), .inl ((cs 4), 3, .inr (.inr (.inr (.inr (fun _ => none)))))), ((h 7), .inl ((cs 0), 4, .inr (.inr (.inr (.inr fn))))), ((h 8), .inr (0, [.ref (h 102), .ref (h 103), .int 0])), ((h 20), .inl ((cs 8), 2, .inr (.inr (.inr (.inr fi))))), ((h 21), .inr (8, [.ref (h 22), .int 0, .ref (h 23), .ref (h 24), .int 0, .ref (h 25), .int 0, .ref (h 26), .int 0, .ref (h 27), .int 0])), ((h 22), .inl ((cs 7), 4, .inr (.inr (.inr (.inr (fun _ => none)))))), ((h 23), .inl ((cs 9), 10, .inr (.inr (.inr (.inr (fun _ => none)))))), ((h 24), .inl ((cs 4), 100, .inr (.inr (.inr (.inr (fun _ => none)))))), ((h 25), .inl ((cs 2), 4, .inr (.inr (.inr (.inr (fun _ => none)))))), ((h 26), .inl ((cs 4), 3, .inr (.inr (.inr (.inr (fun _ => none)))))), ((h 27), .inl ((cs 0), 4, .inr (.inr (.inr (.inr f1))))), ((h 29), .inr (8, [.ref (h 30), .int 0, .ref (h 31), .ref (h 32), .int 0, .ref (h 33), .int 0, .ref (h 34), .int 0, .ref (h 35), .int 0])), ((h 30), .inl ((cs 7), 4, .inr (.inr (.inr (.inr (fun _ => none)))))), ((h 31), .inl ((cs 9), 10, .inr (.inr (.inr (.inr (fun _ => none)))))), ((h 32), .inl ((cs 4), 100, .inr (.inr (.inr (.inr (fun _ => none)))))), ((h 33), .inl ((cs 2), 4, .inr (.inr (.inr (.inr (fun _ => none)))))), ((h 34), .inl ((cs 4), 3, .inr (.inr (.inr (.inr (fun _ => none)))))), ((h 35), .inl ((cs 0), 4, .inr (.inr (.inr (.inr f2))))), ((h 37), .inl ((cs 14), 2, .inl zI0))]) (w1 := []) hP hD [] [0, 1, 2, 3, 4, 5, 6, 7, 8, 9, 10, 11, 12, 13, 14, 15, 16, 17, 18, 19, 20, 21, 22, 23, 24] rfl rfl (by decide) (by decide) hk1 hFc hP1 hD1
  generalize H1 = H at hP hS ⊢
  have hP : va_P D vwCl [((h 0), .inr (11, [.ref (h 1), .ref (h 9), .int 0, .int 0, .ref (h 20), .ref (h 37), .int 0, .ref (h 38), .ref (h 42), .ref (h 43), .ref (h 44), .ref (h 45), .ref (h 46), .ref (h 47), .ref (h 48)])), ((h 1), .inr (8, [.ref (h 2), .int 0, .ref (h 3), .ref (h 4), .int 0, .ref (h 5), .int 0, .ref (h 6), .int 0, .ref (h 7), .int 0])), ((h 2), .inl ((cs 7), 4, .inr (.inr (.inr (.inr (fun _ => none)))))), ((h 3), .inl ((cs 9), 10, .inr (.inr (.inr (.inr (fun _ => none)))))), ((h 4), .inl ((cs 4), 100, .inr (.inr (.inr (.inr (fun _ => none)))))), ((h 5), .inl ((cs 2), 4, .inr (.inr (.inr (.inr (fun _ => none)))))), ((h 6), .inl ((cs 4), 3, .inr (.inr (.inr (.inr (fun _ => none)))))), ((h 7), .inl ((cs 0), 4, .inr (.inr (.inr (.inr fn))))), ((h 8), .inr (0, [.ref (h 102), .ref (h 103), .int 0])), ((h 20), .inl ((cs 8), 2, .inr (.inr (.inr (.inr fi))))), ((h 21), .inr (8, [.ref (h 22), .int 0, .ref (h 23), .ref (h 24), .int 0, .ref (h 25), .int 0, .ref (h 26), .int 0, .ref (h 27), .int 0])), ((h 22), .inl ((cs 7), 4, .inr (.inr (.inr (.inr (fun _ => none)))))), ((h 23), .inl ((cs 9), 10, .inr (.inr (.inr (.inr (fun _ => none)))))), ((h 24), .inl ((cs 4), 100, .inr (.inr (.inr (.inr (fun _ => none)))))), ((h 25), .inl ((cs 2), 4, .inr (.inr (.inr (.inr (fun _ => none)))))), ((h 26), .inl ((cs 4), 3, .inr (.inr (.inr (.inr (fun _ => none)))))), ((h 27), .inl ((cs 0), 4, .inr (.inr (.inr (.inr f1))))), ((h 29), .inr (8, [.ref (h 30), .int 0, .ref (h 31), .ref (h 32), .int 0, .ref (h 33), .int 0, .ref (h 34), .int 0, .ref (h 35), .int 0])), ((h 30), .inl ((cs 7), 4, .inr (.inr (.inr (.inr (fun _ => none)))))), ((h 31), .inl ((cs 9), 10, .inr (.inr (.inr (.inr (fun _ => none)))))), ((h 32), .inl ((cs 4), 100, .inr (.inr (.inr (.inr (fun _ => none)))))), ((h 33), .inl ((cs 2), 4, .inr (.inr (.inr (.inr (fun _ => none)))))), ((h 34), .inl ((cs 4), 3, .inr (.inr (.inr (.inr (fun _ => none)))))), ((h 35), .inl ((cs 0), 4, .inr (.inr (.inr (.inr f2))))), ((h 37), .inl ((cs 14), 2, .inl zI0))] H := hP
  have hD : va_D A [((h 0), .inr (11, [.ref (h 1), .ref (h 9), .int 0, .int 0, .ref (h 20), .ref (h 37), .int 0, .ref (h 38), .ref (h 42), .ref (h 43), .ref (h 44), .ref (h 45), .ref (h 46), .ref (h 47), .ref (h 48)])), ((h 1), .inr (8, [.ref (h 2), .int 0, .ref (h 3), .ref (h 4), .int 0, .ref (h 5), .int 0, .ref (h 6), .int 0, .ref (h 7), .int 0])), ((h 2), .inl ((cs 7), 4, .inr (.inr (.inr (.inr (fun _ => none)))))), ((h 3), .inl ((cs 9), 10, .inr (.inr (.inr (.inr (fun _ => none)))))), ((h 4), .inl ((cs 4), 100, .inr (.inr (.inr (.inr (fun _ => none)))))), ((h 5), .inl ((cs 2), 4, .inr (.inr (.inr (.inr (fun _ => none)))))), ((h 6), .inl ((cs 4), 3, .inr (.inr (.inr (.inr (fun _ => none)))))), ((h 7), .inl ((cs 0), 4, .inr (.inr (.inr (.inr fn))))), ((h 8), .inr (0, [.ref (h 102), .ref (h 103), .int 0])), ((h 20), .inl ((cs 8), 2, .inr (.inr (.inr (.inr fi))))), ((h 21), .inr (8, [.ref (h 22), .int 0, .ref (h 23), .ref (h 24), .int 0, .ref (h 25), .int 0, .ref (h 26), .int 0, .ref (h 27), .int 0])), ((h 22), .inl ((cs 7), 4, .inr (.inr (.inr (.inr (fun _ => none)))))), ((h 23), .inl ((cs 9), 10, .inr (.inr (.inr (.inr (fun _ => none)))))), ((h 24), .inl ((cs 4), 100, .inr (.inr (.inr (.inr (fun _ => none)))))), ((h 25), .inl ((cs 2), 4, .inr (.inr (.inr (.inr (fun _ => none)))))), ((h 26), .inl ((cs 4), 3, .inr (.inr (.inr (.inr (fun _ => none)))))), ((h 27), .inl ((cs 0), 4, .inr (.inr (.inr (.inr f1))))), ((h 29), .inr (8, [.ref (h 30), .int 0, .ref (h 31), .ref (h 32), .int 0, .ref (h 33), .int 0, .ref (h 34), .int 0, .ref (h 35), .int 0])), ((h 30), .inl ((cs 7), 4, .inr (.inr (.inr (.inr (fun _ => none)))))), ((h 31), .inl ((cs 9), 10, .inr (.inr (.inr (.inr (fun _ => none)))))), ((h 32), .inl ((cs 4), 100, .inr (.inr (.inr (.inr (fun _ => none)))))), ((h 33), .inl ((cs 2), 4, .inr (.inr (.inr (.inr (fun _ => none)))))), ((h 34), .inl ((cs 4), 3, .inr (.inr (.inr (.inr (fun _ => none)))))), ((h 35), .inl ((cs 0), 4, .inr (.inr (.inr (.inr f2))))), ((h 37), .inl ((cs 14), 2, .inl zI0))] := hD
  refine W.widen (k := 1) (n := 6) (Nat.le_of_ble_eq_true rfl) (Nat.le_of_ble_eq_true rfl) ?_
  simp only [Int32.reduceToInt] at hw_1
  refine lv_aload_n hx hb dX11_image_5 rfl (lv_at hl 0 rfl) ?_
  refine va_get (D := D) (ci := 11) (v := .ref (h 37)) (C := RX11) (T := TX11) (N := 15) hx hb ht zinX11 hown hK hP 0 rfl rfl 5 (by decide) (ht _ zw_359) (fun _ h9 => h9) rfl dX11_image_6 ?_
  refine lv_iload_n hx hb dX11_image_9 rfl (lv_at hl 1 rfl) ?_
  refine va_zald hx hb hK hP 24 6 rfl rfl (vp_in_iff.mpr ⟨hw_1.1, by have hq := hw_1.2; omega⟩) dX11_image_10 ?_
  refine W.eq (g2 := F0 m 11 ls (.int 0 :: [])) rfl ?_
  refine lv_istore_n (lv' := [(2, .int 0), (0, .ref (h 0)), (1, .int p0)]) hx hb dX11_image_11 rfl hl (by decide) rfl (fun ls hl => ?_)
  refine lv_aload_n hx hb dX11_image_12 rfl (lv_at hl 1 rfl) ?_
  refine va_get (D := D) (ci := 11) (v := .ref (h 20)) (C := RX11) (T := TX11) (N := 15) hx hb ht zinX11 hown hK hP 0 rfl rfl 4 (by decide) (ht _ zw_358) (fun _ h9 => h9) rfl dX11_image_13 ?_
  refine lv_iload_n hx hb dX11_image_16 rfl (lv_at hl 2 rfl) ?_
  refine va_aldq hx hb hK hP 9 5 rfl rfl (vp_in_iff.mpr ⟨hw_1.1, by have hq := hw_1.2; omega⟩) dX11_image_17 ?_
  rcases (show p0.toInt = 0 ∨ p0.toInt = 1 by omega) with hk | hk
  · skip
    refine W.eq (g2 := F0 m 18 ls (.ref (h 21) :: [])) (by show F0 m _ ls (va_rf (fi p0.toNatClampNeg) :: _) = _; rw [show p0.toNatClampNeg = 0 from by show p0.toInt.toNat = 0; omega, hi0]; rfl) ?_
    refine lv_aload_n hx hb dX11_image_18 rfl (lv_at hl 1 rfl) ?_
    refine va_get (D := D) (ci := 11) (v := .ref (h 1)) (C := RX11) (T := TX11) (N := 15) hx hb ht zinX11 hown hK hP 0 rfl rfl 0 (by decide) (ht _ zw_353) (fun _ h9 => h9) rfl dX11_image_19 ?_
    have hPc := hP.sub (ws' := [((h 1), .inr (8, [.ref (h 2), .int 0, .ref (h 3), .ref (h 4), .int 0, .ref (h 5), .int 0, .ref (h 6), .int 0, .ref (h 7), .int 0])), ((h 2), .inl ((cs 7), 4, .inr (.inr (.inr (.inr (fun _ => none)))))), ((h 3), .inl ((cs 9), 10, .inr (.inr (.inr (.inr (fun _ => none)))))), ((h 4), .inl ((cs 4), 100, .inr (.inr (.inr (.inr (fun _ => none)))))), ((h 5), .inl ((cs 2), 4, .inr (.inr (.inr (.inr (fun _ => none)))))), ((h 6), .inl ((cs 4), 3, .inr (.inr (.inr (.inr (fun _ => none)))))), ((h 7), .inl ((cs 0), 4, .inr (.inr (.inr (.inr fn))))), ((h 8), .inr (0, [.ref (h 102), .ref (h 103), .int 0])), ((h 21), .inr (8, [.ref (h 22), .int 0, .ref (h 23), .ref (h 24), .int 0, .ref (h 25), .int 0, .ref (h 26), .int 0, .ref (h 27), .int 0])), ((h 22), .inl ((cs 7), 4, .inr (.inr (.inr (.inr (fun _ => none)))))), ((h 23), .inl ((cs 9), 10, .inr (.inr (.inr (.inr (fun _ => none)))))), ((h 24), .inl ((cs 4), 100, .inr (.inr (.inr (.inr (fun _ => none)))))), ((h 25), .inl ((cs 2), 4, .inr (.inr (.inr (.inr (fun _ => none)))))), ((h 26), .inl ((cs 4), 3, .inr (.inr (.inr (.inr (fun _ => none)))))), ((h 27), .inl ((cs 0), 4, .inr (.inr (.inr (.inr f1)))))]) [1, 2, 3, 4, 5, 6, 7, 8, 10, 11, 12, 13, 14, 15, 16] rfl
    have hDc := hD.sub (ws' := [((h 1), .inr (8, [.ref (h 2), .int 0, .ref (h 3), .ref (h 4), .int 0, .ref (h 5), .int 0, .ref (h 6), .int 0, .ref (h 7), .int 0])), ((h 2), .inl ((cs 7), 4, .inr (.inr (.inr (.inr (fun _ => none)))))), ((h 3), .inl ((cs 9), 10, .inr (.inr (.inr (.inr (fun _ => none)))))), ((h 4), .inl ((cs 4), 100, .inr (.inr (.inr (.inr (fun _ => none)))))), ((h 5), .inl ((cs 2), 4, .inr (.inr (.inr (.inr (fun _ => none)))))), ((h 6), .inl ((cs 4), 3, .inr (.inr (.inr (.inr (fun _ => none)))))), ((h 7), .inl ((cs 0), 4, .inr (.inr (.inr (.inr fn))))), ((h 8), .inr (0, [.ref (h 102), .ref (h 103), .int 0])), ((h 21), .inr (8, [.ref (h 22), .int 0, .ref (h 23), .ref (h 24), .int 0, .ref (h 25), .int 0, .ref (h 26), .int 0, .ref (h 27), .int 0])), ((h 22), .inl ((cs 7), 4, .inr (.inr (.inr (.inr (fun _ => none)))))), ((h 23), .inl ((cs 9), 10, .inr (.inr (.inr (.inr (fun _ => none)))))), ((h 24), .inl ((cs 4), 100, .inr (.inr (.inr (.inr (fun _ => none)))))), ((h 25), .inl ((cs 2), 4, .inr (.inr (.inr (.inr (fun _ => none)))))), ((h 26), .inl ((cs 4), 3, .inr (.inr (.inr (.inr (fun _ => none)))))), ((h 27), .inl ((cs 0), 4, .inr (.inr (.inr (.inr f1)))))]) [1, 2, 3, 4, 5, 6, 7, 8, 10, 11, 12, 13, 14, 15, 16] (by decide) rfl
    have hKc := hK.sub (tys' := [((cs 7), .object RX7), ((cs 9), .object RX9), ((cs 4), .object RX4), ((cs 2), .object RX2), ((cs 0), .object RX0)]) [0, 1, 2, 3, 4] rfl
    have hFc := va_free (wc := [((h 1), .inr (8, [.ref (h 2), .int 0, .ref (h 3), .ref (h 4), .int 0, .ref (h 5), .int 0, .ref (h 6), .int 0, .ref (h 7), .int 0])), ((h 2), .inl ((cs 7), 4, .inr (.inr (.inr (.inr (fun _ => none)))))), ((h 3), .inl ((cs 9), 10, .inr (.inr (.inr (.inr (fun _ => none)))))), ((h 4), .inl ((cs 4), 100, .inr (.inr (.inr (.inr (fun _ => none)))))), ((h 5), .inl ((cs 2), 4, .inr (.inr (.inr (.inr (fun _ => none)))))), ((h 6), .inl ((cs 4), 3, .inr (.inr (.inr (.inr (fun _ => none)))))), ((h 7), .inl ((cs 0), 4, .inr (.inr (.inr (.inr fn))))), ((h 8), .inr (0, [.ref (h 102), .ref (h 103), .int 0])), ((h 21), .inr (8, [.ref (h 22), .int 0, .ref (h 23), .ref (h 24), .int 0, .ref (h 25), .int 0, .ref (h 26), .int 0, .ref (h 27), .int 0])), ((h 22), .inl ((cs 7), 4, .inr (.inr (.inr (.inr (fun _ => none)))))), ((h 23), .inl ((cs 9), 10, .inr (.inr (.inr (.inr (fun _ => none)))))), ((h 24), .inl ((cs 4), 100, .inr (.inr (.inr (.inr (fun _ => none)))))), ((h 25), .inl ((cs 2), 4, .inr (.inr (.inr (.inr (fun _ => none)))))), ((h 26), .inl ((cs 4), 3, .inr (.inr (.inr (.inr (fun _ => none)))))), ((h 27), .inl ((cs 0), 4, .inr (.inr (.inr (.inr f1)))))]) hD hS hA [1, 2, 3, 4, 5, 6, 7, 8, 10, 11, 12, 13, 14, 15, 16] rfl
    refine va_callv (va_runV (As := [.ref (h 1)]) (rest := []) ⟨hx, hb, hml, hown, ht⟩ (k_X8_copyFrom l _ D h cs fn hn (h 21) (h 22) (h 23) (h 24) (h 25) (h 26) (h 27) f1) (cwV 1 ht (zG_V zw_471 zw_472 zw_473 zw_334 zw_474) rfl rfl rfl (by decide +kernel) ⟨Nat.le_of_ble_eq_true rfl, Nat.le_of_ble_eq_true rfl⟩) (zM_V (va_recv hK hP (ci := 8) (q0 := 10) rfl rfl) hPc hKc hDc) rfl rfl hl.1 rfl (lv_room (Nat.le_of_ble_eq_true rfl)) dX11_image_22 ⟨Nat.le_of_ble_eq_true rfl, Nat.le_of_ble_eq_true rfl⟩) hS (fun q _ h => hFc q h) hFc (fun u_4 t H1 locs ht0 hvm hw_4 hB hz1 hk1 hS => ?_)
    obtain ⟨hP1, hK1, hD1⟩ := hB
    rw [ht0] at hP1
    have hK1 := va_K.moved hvm.symm hK1
    obtain ⟨hP, hD⟩ := va_join (wr := [((h 0), .inr (11, [.ref (h 1), .ref (h 9), .int 0, .int 0, .ref (h 20), .ref (h 37), .int 0, .ref (h 38), .ref (h 42), .ref (h 43), .ref (h 44), .ref (h 45), .ref (h 46), .ref (h 47), .ref (h 48)])), ((h 20), .inl ((cs 8), 2, .inr (.inr (.inr (.inr fi))))), ((h 29), .inr (8, [.ref (h 30), .int 0, .ref (h 31), .ref (h 32), .int 0, .ref (h 33), .int 0, .ref (h 34), .int 0, .ref (h 35), .int 0])), ((h 30), .inl ((cs 7), 4, .inr (.inr (.inr (.inr (fun _ => none)))))), ((h 31), .inl ((cs 9), 10, .inr (.inr (.inr (.inr (fun _ => none)))))), ((h 32), .inl ((cs 4), 100, .inr (.inr (.inr (.inr (fun _ => none)))))), ((h 33), .inl ((cs 2), 4, .inr (.inr (.inr (.inr (fun _ => none)))))), ((h 34), .inl ((cs 4), 3, .inr (.inr (.inr (.inr (fun _ => none)))))), ((h 35), .inl ((cs 0), 4, .inr (.inr (.inr (.inr f2))))), ((h 37), .inl ((cs 14), 2, .inl zI0))]) (w1 := [((h 1), .inr (8, [.ref (h 2), .int 0, .ref (h 3), .ref (h 4), .int 0, .ref (h 5), .int 0, .ref (h 6), .int 0, .ref (h 7), .int 0])), ((h 2), .inl ((cs 7), 4, .inr (.inr (.inr (.inr (fun _ => none)))))), ((h 3), .inl ((cs 9), 10, .inr (.inr (.inr (.inr (fun _ => none)))))), ((h 4), .inl ((cs 4), 100, .inr (.inr (.inr (.inr (fun _ => none)))))), ((h 5), .inl ((cs 2), 4, .inr (.inr (.inr (.inr (fun _ => none)))))), ((h 6), .inl ((cs 4), 3, .inr (.inr (.inr (.inr (fun _ => none)))))), ((h 7), .inl ((cs 0), 4, .inr (.inr (.inr (.inr fn))))), ((h 8), .inr (0, [.ref (h 102), .ref (h 103), .int 0])), ((h 21), .inr (8, [.ref (h 22), .int 0, .ref (h 23), .ref (h 24), .int 0, .ref (h 25), .int 0, .ref (h 26), .int 0, .ref (h 27), .int 0])), ((h 22), .inl ((cs 7), 4, .inr (.inr (.inr (.inr (fun _ => none)))))), ((h 23), .inl ((cs 9), 10, .inr (.inr (.inr (.inr (fun _ => none)))))), ((h 24), .inl ((cs 4), 100, .inr (.inr (.inr (.inr (fun _ => none)))))), ((h 25), .inl ((cs 2), 4, .inr (.inr (.inr (.inr (fun _ => none)))))), ((h 26), .inl ((cs 4), 3, .inr (.inr (.inr (.inr (fun _ => none)))))), ((h 27), .inl ((cs 0), 4, .inr (.inr (.inr (.inr (va_up (va_up (va_up (va_up f1 0 (some (h 8))) 1 (some (h 8))) 2 (some (h 8))) 3 (some (h 8))))))))]) hP hD [1, 2, 3, 4, 5, 6, 7, 8, 10, 11, 12, 13, 14, 15, 16] [0, 9, 17, 18, 19, 20, 21, 22, 23, 24] rfl rfl (by decide) (by decide) hk1 hFc hP1 hD1
    generalize H1 = H at hP hS ⊢
    have hP : va_P D vwCl [((h 0), .inr (11, [.ref (h 1), .ref (h 9), .int 0, .int 0, .ref (h 20), .ref (h 37), .int 0, .ref (h 38), .ref (h 42), .ref (h 43), .ref (h 44), .ref (h 45), .ref (h 46), .ref (h 47), .ref (h 48)])), ((h 20), .inl ((cs 8), 2, .inr (.inr (.inr (.inr fi))))), ((h 29), .inr (8, [.ref (h 30), .int 0, .ref (h 31), .ref (h 32), .int 0, .ref (h 33), .int 0, .ref (h 34), .int 0, .ref (h 35), .int 0])), ((h 30), .inl ((cs 7), 4, .inr (.inr (.inr (.inr (fun _ => none)))))), ((h 31), .inl ((cs 9), 10, .inr (.inr (.inr (.inr (fun _ => none)))))), ((h 32), .inl ((cs 4), 100, .inr (.inr (.inr (.inr (fun _ => none)))))), ((h 33), .inl ((cs 2), 4, .inr (.inr (.inr (.inr (fun _ => none)))))), ((h 34), .inl ((cs 4), 3, .inr (.inr (.inr (.inr (fun _ => none)))))), ((h 35), .inl ((cs 0), 4, .inr (.inr (.inr (.inr f2))))), ((h 37), .inl ((cs 14), 2, .inl zI0)), ((h 1), .inr (8, [.ref (h 2), .int 0, .ref (h 3), .ref (h 4), .int 0, .ref (h 5), .int 0, .ref (h 6), .int 0, .ref (h 7), .int 0])), ((h 2), .inl ((cs 7), 4, .inr (.inr (.inr (.inr (fun _ => none)))))), ((h 3), .inl ((cs 9), 10, .inr (.inr (.inr (.inr (fun _ => none)))))), ((h 4), .inl ((cs 4), 100, .inr (.inr (.inr (.inr (fun _ => none)))))), ((h 5), .inl ((cs 2), 4, .inr (.inr (.inr (.inr (fun _ => none)))))), ((h 6), .inl ((cs 4), 3, .inr (.inr (.inr (.inr (fun _ => none)))))), ((h 7), .inl ((cs 0), 4, .inr (.inr (.inr (.inr fn))))), ((h 8), .inr (0, [.ref (h 102), .ref (h 103), .int 0])), ((h 21), .inr (8, [.ref (h 22), .int 0, .ref (h 23), .ref (h 24), .int 0, .ref (h 25), .int 0, .ref (h 26), .int 0, .ref (h 27), .int 0])), ((h 22), .inl ((cs 7), 4, .inr (.inr (.inr (.inr (fun _ => none)))))), ((h 23), .inl ((cs 9), 10, .inr (.inr (.inr (.inr (fun _ => none)))))), ((h 24), .inl ((cs 4), 100, .inr (.inr (.inr (.inr (fun _ => none)))))), ((h 25), .inl ((cs 2), 4, .inr (.inr (.inr (.inr (fun _ => none)))))), ((h 26), .inl ((cs 4), 3, .inr (.inr (.inr (.inr (fun _ => none)))))), ((h 27), .inl ((cs 0), 4, .inr (.inr (.inr (.inr (va_up (va_up (va_up (va_up f1 0 (some (h 8))) 1 (some (h 8))) 2 (some (h 8))) 3 (some (h 8))))))))] H := hP
    have hD : va_D A [((h 0), .inr (11, [.ref (h 1), .ref (h 9), .int 0, .int 0, .ref (h 20), .ref (h 37), .int 0, .ref (h 38), .ref (h 42), .ref (h 43), .ref (h 44), .ref (h 45), .ref (h 46), .ref (h 47), .ref (h 48)])), ((h 20), .inl ((cs 8), 2, .inr (.inr (.inr (.inr fi))))), ((h 29), .inr (8, [.ref (h 30), .int 0, .ref (h 31), .ref (h 32), .int 0, .ref (h 33), .int 0, .ref (h 34), .int 0, .ref (h 35), .int 0])), ((h 30), .inl ((cs 7), 4, .inr (.inr (.inr (.inr (fun _ => none)))))), ((h 31), .inl ((cs 9), 10, .inr (.inr (.inr (.inr (fun _ => none)))))), ((h 32), .inl ((cs 4), 100, .inr (.inr (.inr (.inr (fun _ => none)))))), ((h 33), .inl ((cs 2), 4, .inr (.inr (.inr (.inr (fun _ => none)))))), ((h 34), .inl ((cs 4), 3, .inr (.inr (.inr (.inr (fun _ => none)))))), ((h 35), .inl ((cs 0), 4, .inr (.inr (.inr (.inr f2))))), ((h 37), .inl ((cs 14), 2, .inl zI0)), ((h 1), .inr (8, [.ref (h 2), .int 0, .ref (h 3), .ref (h 4), .int 0, .ref (h 5), .int 0, .ref (h 6), .int 0, .ref (h 7), .int 0])), ((h 2), .inl ((cs 7), 4, .inr (.inr (.inr (.inr (fun _ => none)))))), ((h 3), .inl ((cs 9), 10, .inr (.inr (.inr (.inr (fun _ => none)))))), ((h 4), .inl ((cs 4), 100, .inr (.inr (.inr (.inr (fun _ => none)))))), ((h 5), .inl ((cs 2), 4, .inr (.inr (.inr (.inr (fun _ => none)))))), ((h 6), .inl ((cs 4), 3, .inr (.inr (.inr (.inr (fun _ => none)))))), ((h 7), .inl ((cs 0), 4, .inr (.inr (.inr (.inr fn))))), ((h 8), .inr (0, [.ref (h 102), .ref (h 103), .int 0])), ((h 21), .inr (8, [.ref (h 22), .int 0, .ref (h 23), .ref (h 24), .int 0, .ref (h 25), .int 0, .ref (h 26), .int 0, .ref (h 27), .int 0])), ((h 22), .inl ((cs 7), 4, .inr (.inr (.inr (.inr (fun _ => none)))))), ((h 23), .inl ((cs 9), 10, .inr (.inr (.inr (.inr (fun _ => none)))))), ((h 24), .inl ((cs 4), 100, .inr (.inr (.inr (.inr (fun _ => none)))))), ((h 25), .inl ((cs 2), 4, .inr (.inr (.inr (.inr (fun _ => none)))))), ((h 26), .inl ((cs 4), 3, .inr (.inr (.inr (.inr (fun _ => none)))))), ((h 27), .inl ((cs 0), 4, .inr (.inr (.inr (.inr (va_up (va_up (va_up (va_up f1 0 (some (h 8))) 1 (some (h 8))) 2 (some (h 8))) 3 (some (h 8))))))))] := hD
    refine lv_aload_n hx hb dX11_image_25 rfl (lv_at hl 1 rfl) ?_
    refine va_get (D := D) (ci := 11) (v := .ref (h 37)) (C := RX11) (T := TX11) (N := 15) hx hb ht zinX11 hown hK hP 0 rfl rfl 5 (by decide) (ht _ zw_359) (fun _ h9 => h9) rfl dX11_image_26 ?_
    refine lv_iload_n hx hb dX11_image_29 rfl (lv_at hl 2 rfl) ?_
    refine lv_iconst (v := 1) hx hb dX11_image_30 (by decide) ?_
    refine va_zast hx hb hK hP hD hS 9 6 rfl rfl (vp_in_iff.mpr ⟨hw_1.1, by have hq := hw_1.2; omega⟩) dX11_image_31 (fun H locs hP hD hS => ?_)
    have hP : va_P D vwCl [((h 0), .inr (11, [.ref (h 1), .ref (h 9), .int 0, .int 0, .ref (h 20), .ref (h 37), .int 0, .ref (h 38), .ref (h 42), .ref (h 43), .ref (h 44), .ref (h 45), .ref (h 46), .ref (h 47), .ref (h 48)])), ((h 20), .inl ((cs 8), 2, .inr (.inr (.inr (.inr fi))))), ((h 29), .inr (8, [.ref (h 30), .int 0, .ref (h 31), .ref (h 32), .int 0, .ref (h 33), .int 0, .ref (h 34), .int 0, .ref (h 35), .int 0])), ((h 30), .inl ((cs 7), 4, .inr (.inr (.inr (.inr (fun _ => none)))))), ((h 31), .inl ((cs 9), 10, .inr (.inr (.inr (.inr (fun _ => none)))))), ((h 32), .inl ((cs 4), 100, .inr (.inr (.inr (.inr (fun _ => none)))))), ((h 33), .inl ((cs 2), 4, .inr (.inr (.inr (.inr (fun _ => none)))))), ((h 34), .inl ((cs 4), 3, .inr (.inr (.inr (.inr (fun _ => none)))))), ((h 35), .inl ((cs 0), 4, .inr (.inr (.inr (.inr f2))))), ((h 37), .inl ((cs 14), 2, .inl (upd zI0 p0.toNatClampNeg 1))), ((h 1), .inr (8, [.ref (h 2), .int 0, .ref (h 3), .ref (h 4), .int 0, .ref (h 5), .int 0, .ref (h 6), .int 0, .ref (h 7), .int 0])), ((h 2), .inl ((cs 7), 4, .inr (.inr (.inr (.inr (fun _ => none)))))), ((h 3), .inl ((cs 9), 10, .inr (.inr (.inr (.inr (fun _ => none)))))), ((h 4), .inl ((cs 4), 100, .inr (.inr (.inr (.inr (fun _ => none)))))), ((h 5), .inl ((cs 2), 4, .inr (.inr (.inr (.inr (fun _ => none)))))), ((h 6), .inl ((cs 4), 3, .inr (.inr (.inr (.inr (fun _ => none)))))), ((h 7), .inl ((cs 0), 4, .inr (.inr (.inr (.inr fn))))), ((h 8), .inr (0, [.ref (h 102), .ref (h 103), .int 0])), ((h 21), .inr (8, [.ref (h 22), .int 0, .ref (h 23), .ref (h 24), .int 0, .ref (h 25), .int 0, .ref (h 26), .int 0, .ref (h 27), .int 0])), ((h 22), .inl ((cs 7), 4, .inr (.inr (.inr (.inr (fun _ => none)))))), ((h 23), .inl ((cs 9), 10, .inr (.inr (.inr (.inr (fun _ => none)))))), ((h 24), .inl ((cs 4), 100, .inr (.inr (.inr (.inr (fun _ => none)))))), ((h 25), .inl ((cs 2), 4, .inr (.inr (.inr (.inr (fun _ => none)))))), ((h 26), .inl ((cs 4), 3, .inr (.inr (.inr (.inr (fun _ => none)))))), ((h 27), .inl ((cs 0), 4, .inr (.inr (.inr (.inr (va_up (va_up (va_up (va_up f1 0 (some (h 8))) 1 (some (h 8))) 2 (some (h 8))) 3 (some (h 8))))))))] H := hP
    have hD : va_D A [((h 0), .inr (11, [.ref (h 1), .ref (h 9), .int 0, .int 0, .ref (h 20), .ref (h 37), .int 0, .ref (h 38), .ref (h 42), .ref (h 43), .ref (h 44), .ref (h 45), .ref (h 46), .ref (h 47), .ref (h 48)])), ((h 20), .inl ((cs 8), 2, .inr (.inr (.inr (.inr fi))))), ((h 29), .inr (8, [.ref (h 30), .int 0, .ref (h 31), .ref (h 32), .int 0, .ref (h 33), .int 0, .ref (h 34), .int 0, .ref (h 35), .int 0])), ((h 30), .inl ((cs 7), 4, .inr (.inr (.inr (.inr (fun _ => none)))))), ((h 31), .inl ((cs 9), 10, .inr (.inr (.inr (.inr (fun _ => none)))))), ((h 32), .inl ((cs 4), 100, .inr (.inr (.inr (.inr (fun _ => none)))))), ((h 33), .inl ((cs 2), 4, .inr (.inr (.inr (.inr (fun _ => none)))))), ((h 34), .inl ((cs 4), 3, .inr (.inr (.inr (.inr (fun _ => none)))))), ((h 35), .inl ((cs 0), 4, .inr (.inr (.inr (.inr f2))))), ((h 37), .inl ((cs 14), 2, .inl (upd zI0 p0.toNatClampNeg 1))), ((h 1), .inr (8, [.ref (h 2), .int 0, .ref (h 3), .ref (h 4), .int 0, .ref (h 5), .int 0, .ref (h 6), .int 0, .ref (h 7), .int 0])), ((h 2), .inl ((cs 7), 4, .inr (.inr (.inr (.inr (fun _ => none)))))), ((h 3), .inl ((cs 9), 10, .inr (.inr (.inr (.inr (fun _ => none)))))), ((h 4), .inl ((cs 4), 100, .inr (.inr (.inr (.inr (fun _ => none)))))), ((h 5), .inl ((cs 2), 4, .inr (.inr (.inr (.inr (fun _ => none)))))), ((h 6), .inl ((cs 4), 3, .inr (.inr (.inr (.inr (fun _ => none)))))), ((h 7), .inl ((cs 0), 4, .inr (.inr (.inr (.inr fn))))), ((h 8), .inr (0, [.ref (h 102), .ref (h 103), .int 0])), ((h 21), .inr (8, [.ref (h 22), .int 0, .ref (h 23), .ref (h 24), .int 0, .ref (h 25), .int 0, .ref (h 26), .int 0, .ref (h 27), .int 0])), ((h 22), .inl ((cs 7), 4, .inr (.inr (.inr (.inr (fun _ => none)))))), ((h 23), .inl ((cs 9), 10, .inr (.inr (.inr (.inr (fun _ => none)))))), ((h 24), .inl ((cs 4), 100, .inr (.inr (.inr (.inr (fun _ => none)))))), ((h 25), .inl ((cs 2), 4, .inr (.inr (.inr (.inr (fun _ => none)))))), ((h 26), .inl ((cs 4), 3, .inr (.inr (.inr (.inr (fun _ => none)))))), ((h 27), .inl ((cs 0), 4, .inr (.inr (.inr (.inr (va_up (va_up (va_up (va_up f1 0 (some (h 8))) 1 (some (h 8))) 2 (some (h 8))) 3 (some (h 8))))))))] := hD
    refine lv_iload_n hx hb dX11_image_32 rfl (lv_at hl 0 rfl) ?_
    have hP9 := hP.sub (ws' := []) [] rfl
    have hD9 := hD.sub (ws' := []) [] (by decide) rfl
    have hK9 := hK.sub (tys' := []) [] rfl
    refine W.widen (k := 1) (n := 6) (Nat.le_of_ble_eq_true rfl) (Nat.le_of_ble_eq_true rfl) ?_
    refine vx_ret ?_
    exact W.zret (v := 0) hx hb hr rfl (fun t ht0 hW => ⟨⟨0, (), rfl, (show zS_image p0 0 0 from (.inr ⟨rfl, by omega, rfl⟩)), (zE_of hP9 hK9 hD9 ht0 hW)⟩, hS.F ht0⟩) hS.2.2 dX11_image_33
  · skip
    refine W.eq (g2 := F0 m 18 ls (.ref (h 29) :: [])) (by show F0 m _ ls (va_rf (fi p0.toNatClampNeg) :: _) = _; rw [show p0.toNatClampNeg = 1 from by show p0.toInt.toNat = 1; omega, hi1]; rfl) ?_
    refine lv_aload_n hx hb dX11_image_18 rfl (lv_at hl 1 rfl) ?_
    refine va_get (D := D) (ci := 11) (v := .ref (h 1)) (C := RX11) (T := TX11) (N := 15) hx hb ht zinX11 hown hK hP 0 rfl rfl 0 (by decide) (ht _ zw_353) (fun _ h9 => h9) rfl dX11_image_19 ?_
    have hPc := hP.sub (ws' := [((h 1), .inr (8, [.ref (h 2), .int 0, .ref (h 3), .ref (h 4), .int 0, .ref (h 5), .int 0, .ref (h 6), .int 0, .ref (h 7), .int 0])), ((h 2), .inl ((cs 7), 4, .inr (.inr (.inr (.inr (fun _ => none)))))), ((h 3), .inl ((cs 9), 10, .inr (.inr (.inr (.inr (fun _ => none)))))), ((h 4), .inl ((cs 4), 100, .inr (.inr (.inr (.inr (fun _ => none)))))), ((h 5), .inl ((cs 2), 4, .inr (.inr (.inr (.inr (fun _ => none)))))), ((h 6), .inl ((cs 4), 3, .inr (.inr (.inr (.inr (fun _ => none)))))), ((h 7), .inl ((cs 0), 4, .inr (.inr (.inr (.inr fn))))), ((h 8), .inr (0, [.ref (h 102), .ref (h 103), .int 0])), ((h 29), .inr (8, [.ref (h 30), .int 0, .ref (h 31), .ref (h 32), .int 0, .ref (h 33), .int 0, .ref (h 34), .int 0, .ref (h 35), .int 0])), ((h 30), .inl ((cs 7), 4, .inr (.inr (.inr (.inr (fun _ => none)))))), ((h 31), .inl ((cs 9), 10, .inr (.inr (.inr (.inr (fun _ => none)))))), ((h 32), .inl ((cs 4), 100, .inr (.inr (.inr (.inr (fun _ => none)))))), ((h 33), .inl ((cs 2), 4, .inr (.inr (.inr (.inr (fun _ => none)))))), ((h 34), .inl ((cs 4), 3, .inr (.inr (.inr (.inr (fun _ => none)))))), ((h 35), .inl ((cs 0), 4, .inr (.inr (.inr (.inr f2)))))]) [1, 2, 3, 4, 5, 6, 7, 8, 17, 18, 19, 20, 21, 22, 23] rfl
    have hDc := hD.sub (ws' := [((h 1), .inr (8, [.ref (h 2), .int 0, .ref (h 3), .ref (h 4), .int 0, .ref (h 5), .int 0, .ref (h 6), .int 0, .ref (h 7), .int 0])), ((h 2), .inl ((cs 7), 4, .inr (.inr (.inr (.inr (fun _ => none)))))), ((h 3), .inl ((cs 9), 10, .inr (.inr (.inr (.inr (fun _ => none)))))), ((h 4), .inl ((cs 4), 100, .inr (.inr (.inr (.inr (fun _ => none)))))), ((h 5), .inl ((cs 2), 4, .inr (.inr (.inr (.inr (fun _ => none)))))), ((h 6), .inl ((cs 4), 3, .inr (.inr (.inr (.inr (fun _ => none)))))), ((h 7), .inl ((cs 0), 4, .inr (.inr (.inr (.inr fn))))), ((h 8), .inr (0, [.ref (h 102), .ref (h 103), .int 0])), ((h 29), .inr (8, [.ref (h 30), .int 0, .ref (h 31), .ref (h 32), .int 0, .ref (h 33), .int 0, .ref (h 34), .int 0, .ref (h 35), .int 0])), ((h 30), .inl ((cs 7), 4, .inr (.inr (.inr (.inr (fun _ => none)))))), ((h 31), .inl ((cs 9), 10, .inr (.inr (.inr (.inr (fun _ => none)))))), ((h 32), .inl ((cs 4), 100, .inr (.inr (.inr (.inr (fun _ => none)))))), ((h 33), .inl ((cs 2), 4, .inr (.inr (.inr (.inr (fun _ => none)))))), ((h 34), .inl ((cs 4), 3, .inr (.inr (.inr (.inr (fun _ => none)))))), ((h 35), .inl ((cs 0), 4, .inr (.inr (.inr (.inr f2)))))]) [1, 2, 3, 4, 5, 6, 7, 8, 17, 18, 19, 20, 21, 22, 23] (by decide) rfl
    have hKc := hK.sub (tys' := [((cs 7), .object RX7), ((cs 9), .object RX9), ((cs 4), .object RX4), ((cs 2), .object RX2), ((cs 0), .object RX0)]) [0, 1, 2, 3, 4] rfl
    have hFc := va_free (wc := [((h 1), .inr (8, [.ref (h 2), .int 0, .ref (h 3), .ref (h 4), .int 0, .ref (h 5), .int 0, .ref (h 6), .int 0, .ref (h 7), .int 0])), ((h 2), .inl ((cs 7), 4, .inr (.inr (.inr (.inr (fun _ => none)))))), ((h 3), .inl ((cs 9), 10, .inr (.inr (.inr (.inr (fun _ => none)))))), ((h 4), .inl ((cs 4), 100, .inr (.inr (.inr (.inr (fun _ => none)))))), ((h 5), .inl ((cs 2), 4, .inr (.inr (.inr (.inr (fun _ => none)))))), ((h 6), .inl ((cs 4), 3, .inr (.inr (.inr (.inr (fun _ => none)))))), ((h 7), .inl ((cs 0), 4, .inr (.inr (.inr (.inr fn))))), ((h 8), .inr (0, [.ref (h 102), .ref (h 103), .int 0])), ((h 29), .inr (8, [.ref (h 30), .int 0, .ref (h 31), .ref (h 32), .int 0, .ref (h 33), .int 0, .ref (h 34), .int 0, .ref (h 35), .int 0])), ((h 30), .inl ((cs 7), 4, .inr (.inr (.inr (.inr (fun _ => none)))))), ((h 31), .inl ((cs 9), 10, .inr (.inr (.inr (.inr (fun _ => none)))))), ((h 32), .inl ((cs 4), 100, .inr (.inr (.inr (.inr (fun _ => none)))))), ((h 33), .inl ((cs 2), 4, .inr (.inr (.inr (.inr (fun _ => none)))))), ((h 34), .inl ((cs 4), 3, .inr (.inr (.inr (.inr (fun _ => none)))))), ((h 35), .inl ((cs 0), 4, .inr (.inr (.inr (.inr f2)))))]) hD hS hA [1, 2, 3, 4, 5, 6, 7, 8, 17, 18, 19, 20, 21, 22, 23] rfl
    refine va_callv (va_runV (As := [.ref (h 1)]) (rest := []) ⟨hx, hb, hml, hown, ht⟩ (k_X8_copyFrom l _ D h cs fn hn (h 29) (h 30) (h 31) (h 32) (h 33) (h 34) (h 35) f2) (cwV 1 ht (zG_V zw_471 zw_472 zw_473 zw_334 zw_474) rfl rfl rfl (by decide +kernel) ⟨Nat.le_of_ble_eq_true rfl, Nat.le_of_ble_eq_true rfl⟩) (zM_V (va_recv hK hP (ci := 8) (q0 := 17) rfl rfl) hPc hKc hDc) rfl rfl hl.1 rfl (lv_room (Nat.le_of_ble_eq_true rfl)) dX11_image_22 ⟨Nat.le_of_ble_eq_true rfl, Nat.le_of_ble_eq_true rfl⟩) hS (fun q _ h => hFc q h) hFc (fun u_5 t H1 locs ht0 hvm hw_5 hB hz1 hk1 hS => ?_)
    obtain ⟨hP1, hK1, hD1⟩ := hB
    rw [ht0] at hP1
    have hK1 := va_K.moved hvm.symm hK1
    obtain ⟨hP, hD⟩ := va_join (wr := [((h 0), .inr (11, [.ref (h 1), .ref (h 9), .int 0, .int 0, .ref (h 20), .ref (h 37), .int 0, .ref (h 38), .ref (h 42), .ref (h 43), .ref (h 44), .ref (h 45), .ref (h 46), .ref (h 47), .ref (h 48)])), ((h 20), .inl ((cs 8), 2, .inr (.inr (.inr (.inr fi))))), ((h 21), .inr (8, [.ref (h 22), .int 0, .ref (h 23), .ref (h 24), .int 0, .ref (h 25), .int 0, .ref (h 26), .int 0, .ref (h 27), .int 0])), ((h 22), .inl ((cs 7), 4, .inr (.inr (.inr (.inr (fun _ => none)))))), ((h 23), .inl ((cs 9), 10, .inr (.inr (.inr (.inr (fun _ => none)))))), ((h 24), .inl ((cs 4), 100, .inr (.inr (.inr (.inr (fun _ => none)))))), ((h 25), .inl ((cs 2), 4, .inr (.inr (.inr (.inr (fun _ => none)))))), ((h 26), .inl ((cs 4), 3, .inr (.inr (.inr (.inr (fun _ => none)))))), ((h 27), .inl ((cs 0), 4, .inr (.inr (.inr (.inr f1))))), ((h 37), .inl ((cs 14), 2, .inl zI0))]) (w1 := [((h 1), .inr (8, [.ref (h 2), .int 0, .ref (h 3), .ref (h 4), .int 0, .ref (h 5), .int 0, .ref (h 6), .int 0, .ref (h 7), .int 0])), ((h 2), .inl ((cs 7), 4, .inr (.inr (.inr (.inr (fun _ => none)))))), ((h 3), .inl ((cs 9), 10, .inr (.inr (.inr (.inr (fun _ => none)))))), ((h 4), .inl ((cs 4), 100, .inr (.inr (.inr (.inr (fun _ => none)))))), ((h 5), .inl ((cs 2), 4, .inr (.inr (.inr (.inr (fun _ => none)))))), ((h 6), .inl ((cs 4), 3, .inr (.inr (.inr (.inr (fun _ => none)))))), ((h 7), .inl ((cs 0), 4, .inr (.inr (.inr (.inr fn))))), ((h 8), .inr (0, [.ref (h 102), .ref (h 103), .int 0])), ((h 29), .inr (8, [.ref (h 30), .int 0, .ref (h 31), .ref (h 32), .int 0, .ref (h 33), .int 0, .ref (h 34), .int 0, .ref (h 35), .int 0])), ((h 30), .inl ((cs 7), 4, .inr (.inr (.inr (.inr (fun _ => none)))))), ((h 31), .inl ((cs 9), 10, .inr (.inr (.inr (.inr (fun _ => none)))))), ((h 32), .inl ((cs 4), 100, .inr (.inr (.inr (.inr (fun _ => none)))))), ((h 33), .inl ((cs 2), 4, .inr (.inr (.inr (.inr (fun _ => none)))))), ((h 34), .inl ((cs 4), 3, .inr (.inr (.inr (.inr (fun _ => none)))))), ((h 35), .inl ((cs 0), 4, .inr (.inr (.inr (.inr (va_up (va_up (va_up (va_up f2 0 (some (h 8))) 1 (some (h 8))) 2 (some (h 8))) 3 (some (h 8))))))))]) hP hD [1, 2, 3, 4, 5, 6, 7, 8, 17, 18, 19, 20, 21, 22, 23] [0, 9, 10, 11, 12, 13, 14, 15, 16, 24] rfl rfl (by decide) (by decide) hk1 hFc hP1 hD1
    generalize H1 = H at hP hS ⊢
    have hP : va_P D vwCl [((h 0), .inr (11, [.ref (h 1), .ref (h 9), .int 0, .int 0, .ref (h 20), .ref (h 37), .int 0, .ref (h 38), .ref (h 42), .ref (h 43), .ref (h 44), .ref (h 45), .ref (h 46), .ref (h 47), .ref (h 48)])), ((h 20), .inl ((cs 8), 2, .inr (.inr (.inr (.inr fi))))), ((h 21), .inr (8, [.ref (h 22), .int 0, .ref (h 23), .ref (h 24), .int 0, .ref (h 25), .int 0, .ref (h 26), .int 0, .ref (h 27), .int 0])), ((h 22), .inl ((cs 7), 4, .inr (.inr (.inr (.inr (fun _ => none)))))), ((h 23), .inl ((cs 9), 10, .inr (.inr (.inr (.inr (fun _ => none)))))), ((h 24), .inl ((cs 4), 100, .inr (.inr (.inr (.inr (fun _ => none)))))), ((h 25), .inl ((cs 2), 4, .inr (.inr (.inr (.inr (fun _ => none)))))), ((h 26), .inl ((cs 4), 3, .inr (.inr (.inr (.inr (fun _ => none)))))), ((h 27), .inl ((cs 0), 4, .inr (.inr (.inr (.inr f1))))), ((h 37), .inl ((cs 14), 2, .inl zI0)), ((h 1), .inr (8, [.ref (h 2), .int 0, .ref (h 3), .ref (h 4), .int 0, .ref (h 5), .int 0, .ref (h 6), .int 0, .ref (h 7), .int 0])), ((h 2), .inl ((cs 7), 4, .inr (.inr (.inr (.inr (fun _ => none)))))), ((h 3), .inl ((cs 9), 10, .inr (.inr (.inr (.inr (fun _ => none)))))), ((h 4), .inl ((cs 4), 100, .inr (.inr (.inr (.inr (fun _ => none)))))), ((h 5), .inl ((cs 2), 4, .inr (.inr (.inr (.inr (fun _ => none)))))), ((h 6), .inl ((cs 4), 3, .inr (.inr (.inr (.inr (fun _ => none)))))), ((h 7), .inl ((cs 0), 4, .inr (.inr (.inr (.inr fn))))), ((h 8), .inr (0, [.ref (h 102), .ref (h 103), .int 0])), ((h 29), .inr (8, [.ref (h 30), .int 0, .ref (h 31), .ref (h 32), .int 0, .ref (h 33), .int 0, .ref (h 34), .int 0, .ref (h 35), .int 0])), ((h 30), .inl ((cs 7), 4, .inr (.inr (.inr (.inr (fun _ => none)))))), ((h 31), .inl ((cs 9), 10, .inr (.inr (.inr (.inr (fun _ => none)))))), ((h 32), .inl ((cs 4), 100, .inr (.inr (.inr (.inr (fun _ => none)))))), ((h 33), .inl ((cs 2), 4, .inr (.inr (.inr (.inr (fun _ => none)))))), ((h 34), .inl ((cs 4), 3, .inr (.inr (.inr (.inr (fun _ => none)))))), ((h 35), .inl ((cs 0), 4, .inr (.inr (.inr (.inr (va_up (va_up (va_up (va_up f2 0 (some (h 8))) 1 (some (h 8))) 2 (some (h 8))) 3 (some (h 8))))))))] H := hP
    have hD : va_D A [((h 0), .inr (11, [.ref (h 1), .ref (h 9), .int 0, .int 0, .ref (h 20), .ref (h 37), .int 0, .ref (h 38), .ref (h 42), .ref (h 43), .ref (h 44), .ref (h 45), .ref (h 46), .ref (h 47), .ref (h 48)])), ((h 20), .inl ((cs 8), 2, .inr (.inr (.inr (.inr fi))))), ((h 21), .inr (8, [.ref (h 22), .int 0, .ref (h 23), .ref (h 24), .int 0, .ref (h 25), .int 0, .ref (h 26), .int 0, .ref (h 27), .int 0])), ((h 22), .inl ((cs 7), 4, .inr (.inr (.inr (.inr (fun _ => none)))))), ((h 23), .inl ((cs 9), 10, .inr (.inr (.inr (.inr (fun _ => none)))))), ((h 24), .inl ((cs 4), 100, .inr (.inr (.inr (.inr (fun _ => none)))))), ((h 25), .inl ((cs 2), 4, .inr (.inr (.inr (.inr (fun _ => none)))))), ((h 26), .inl ((cs 4), 3, .inr (.inr (.inr (.inr (fun _ => none)))))), ((h 27), .inl ((cs 0), 4, .inr (.inr (.inr (.inr f1))))), ((h 37), .inl ((cs 14), 2, .inl zI0)), ((h 1), .inr (8, [.ref (h 2), .int 0, .ref (h 3), .ref (h 4), .int 0, .ref (h 5), .int 0, .ref (h 6), .int 0, .ref (h 7), .int 0])), ((h 2), .inl ((cs 7), 4, .inr (.inr (.inr (.inr (fun _ => none)))))), ((h 3), .inl ((cs 9), 10, .inr (.inr (.inr (.inr (fun _ => none)))))), ((h 4), .inl ((cs 4), 100, .inr (.inr (.inr (.inr (fun _ => none)))))), ((h 5), .inl ((cs 2), 4, .inr (.inr (.inr (.inr (fun _ => none)))))), ((h 6), .inl ((cs 4), 3, .inr (.inr (.inr (.inr (fun _ => none)))))), ((h 7), .inl ((cs 0), 4, .inr (.inr (.inr (.inr fn))))), ((h 8), .inr (0, [.ref (h 102), .ref (h 103), .int 0])), ((h 29), .inr (8, [.ref (h 30), .int 0, .ref (h 31), .ref (h 32), .int 0, .ref (h 33), .int 0, .ref (h 34), .int 0, .ref (h 35), .int 0])), ((h 30), .inl ((cs 7), 4, .inr (.inr (.inr (.inr (fun _ => none)))))), ((h 31), .inl ((cs 9), 10, .inr (.inr (.inr (.inr (fun _ => none)))))), ((h 32), .inl ((cs 4), 100, .inr (.inr (.inr (.inr (fun _ => none)))))), ((h 33), .inl ((cs 2), 4, .inr (.inr (.inr (.inr (fun _ => none)))))), ((h 34), .inl ((cs 4), 3, .inr (.inr (.inr (.inr (fun _ => none)))))), ((h 35), .inl ((cs 0), 4, .inr (.inr (.inr (.inr (va_up (va_up (va_up (va_up f2 0 (some (h 8))) 1 (some (h 8))) 2 (some (h 8))) 3 (some (h 8))))))))] := hD
    refine lv_aload_n hx hb dX11_image_25 rfl (lv_at hl 1 rfl) ?_
    refine va_get (D := D) (ci := 11) (v := .ref (h 37)) (C := RX11) (T := TX11) (N := 15) hx hb ht zinX11 hown hK hP 0 rfl rfl 5 (by decide) (ht _ zw_359) (fun _ h9 => h9) rfl dX11_image_26 ?_
    refine lv_iload_n hx hb dX11_image_29 rfl (lv_at hl 2 rfl) ?_
    refine lv_iconst (v := 1) hx hb dX11_image_30 (by decide) ?_
    refine va_zast hx hb hK hP hD hS 9 6 rfl rfl (vp_in_iff.mpr ⟨hw_1.1, by have hq := hw_1.2; omega⟩) dX11_image_31 (fun H locs hP hD hS => ?_)
    have hP : va_P D vwCl [((h 0), .inr (11, [.ref (h 1), .ref (h 9), .int 0, .int 0, .ref (h 20), .ref (h 37), .int 0, .ref (h 38), .ref (h 42), .ref (h 43), .ref (h 44), .ref (h 45), .ref (h 46), .ref (h 47), .ref (h 48)])), ((h 20), .inl ((cs 8), 2, .inr (.inr (.inr (.inr fi))))), ((h 21), .inr (8, [.ref (h 22), .int 0, .ref (h 23), .ref (h 24), .int 0, .ref (h 25), .int 0, .ref (h 26), .int 0, .ref (h 27), .int 0])), ((h 22), .inl ((cs 7), 4, .inr (.inr (.inr (.inr (fun _ => none)))))), ((h 23), .inl ((cs 9), 10, .inr (.inr (.inr (.inr (fun _ => none)))))), ((h 24), .inl ((cs 4), 100, .inr (.inr (.inr (.inr (fun _ => none)))))), ((h 25), .inl ((cs 2), 4, .inr (.inr (.inr (.inr (fun _ => none)))))), ((h 26), .inl ((cs 4), 3, .inr (.inr (.inr (.inr (fun _ => none)))))), ((h 27), .inl ((cs 0), 4, .inr (.inr (.inr (.inr f1))))), ((h 37), .inl ((cs 14), 2, .inl (upd zI0 p0.toNatClampNeg 1))), ((h 1), .inr (8, [.ref (h 2), .int 0, .ref (h 3), .ref (h 4), .int 0, .ref (h 5), .int 0, .ref (h 6), .int 0, .ref (h 7), .int 0])), ((h 2), .inl ((cs 7), 4, .inr (.inr (.inr (.inr (fun _ => none)))))), ((h 3), .inl ((cs 9), 10, .inr (.inr (.inr (.inr (fun _ => none)))))), ((h 4), .inl ((cs 4), 100, .inr (.inr (.inr (.inr (fun _ => none)))))), ((h 5), .inl ((cs 2), 4, .inr (.inr (.inr (.inr (fun _ => none)))))), ((h 6), .inl ((cs 4), 3, .inr (.inr (.inr (.inr (fun _ => none)))))), ((h 7), .inl ((cs 0), 4, .inr (.inr (.inr (.inr fn))))), ((h 8), .inr (0, [.ref (h 102), .ref (h 103), .int 0])), ((h 29), .inr (8, [.ref (h 30), .int 0, .ref (h 31), .ref (h 32), .int 0, .ref (h 33), .int 0, .ref (h 34), .int 0, .ref (h 35), .int 0])), ((h 30), .inl ((cs 7), 4, .inr (.inr (.inr (.inr (fun _ => none)))))), ((h 31), .inl ((cs 9), 10, .inr (.inr (.inr (.inr (fun _ => none)))))), ((h 32), .inl ((cs 4), 100, .inr (.inr (.inr (.inr (fun _ => none)))))), ((h 33), .inl ((cs 2), 4, .inr (.inr (.inr (.inr (fun _ => none)))))), ((h 34), .inl ((cs 4), 3, .inr (.inr (.inr (.inr (fun _ => none)))))), ((h 35), .inl ((cs 0), 4, .inr (.inr (.inr (.inr (va_up (va_up (va_up (va_up f2 0 (some (h 8))) 1 (some (h 8))) 2 (some (h 8))) 3 (some (h 8))))))))] H := hP
    have hD : va_D A [((h 0), .inr (11, [.ref (h 1), .ref (h 9), .int 0, .int 0, .ref (h 20), .ref (h 37), .int 0, .ref (h 38), .ref (h 42), .ref (h 43), .ref (h 44), .ref (h 45), .ref (h 46), .ref (h 47), .ref (h 48)])), ((h 20), .inl ((cs 8), 2, .inr (.inr (.inr (.inr fi))))), ((h 21), .inr (8, [.ref (h 22), .int 0, .ref (h 23), .ref (h 24), .int 0, .ref (h 25), .int 0, .ref (h 26), .int 0, .ref (h 27), .int 0])), ((h 22), .inl ((cs 7), 4, .inr (.inr (.inr (.inr (fun _ => none)))))), ((h 23), .inl ((cs 9), 10, .inr (.inr (.inr (.inr (fun _ => none)))))), ((h 24), .inl ((cs 4), 100, .inr (.inr (.inr (.inr (fun _ => none)))))), ((h 25), .inl ((cs 2), 4, .inr (.inr (.inr (.inr (fun _ => none)))))), ((h 26), .inl ((cs 4), 3, .inr (.inr (.inr (.inr (fun _ => none)))))), ((h 27), .inl ((cs 0), 4, .inr (.inr (.inr (.inr f1))))), ((h 37), .inl ((cs 14), 2, .inl (upd zI0 p0.toNatClampNeg 1))), ((h 1), .inr (8, [.ref (h 2), .int 0, .ref (h 3), .ref (h 4), .int 0, .ref (h 5), .int 0, .ref (h 6), .int 0, .ref (h 7), .int 0])), ((h 2), .inl ((cs 7), 4, .inr (.inr (.inr (.inr (fun _ => none)))))), ((h 3), .inl ((cs 9), 10, .inr (.inr (.inr (.inr (fun _ => none)))))), ((h 4), .inl ((cs 4), 100, .inr (.inr (.inr (.inr (fun _ => none)))))), ((h 5), .inl ((cs 2), 4, .inr (.inr (.inr (.inr (fun _ => none)))))), ((h 6), .inl ((cs 4), 3, .inr (.inr (.inr (.inr (fun _ => none)))))), ((h 7), .inl ((cs 0), 4, .inr (.inr (.inr (.inr fn))))), ((h 8), .inr (0, [.ref (h 102), .ref (h 103), .int 0])), ((h 29), .inr (8, [.ref (h 30), .int 0, .ref (h 31), .ref (h 32), .int 0, .ref (h 33), .int 0, .ref (h 34), .int 0, .ref (h 35), .int 0])), ((h 30), .inl ((cs 7), 4, .inr (.inr (.inr (.inr (fun _ => none)))))), ((h 31), .inl ((cs 9), 10, .inr (.inr (.inr (.inr (fun _ => none)))))), ((h 32), .inl ((cs 4), 100, .inr (.inr (.inr (.inr (fun _ => none)))))), ((h 33), .inl ((cs 2), 4, .inr (.inr (.inr (.inr (fun _ => none)))))), ((h 34), .inl ((cs 4), 3, .inr (.inr (.inr (.inr (fun _ => none)))))), ((h 35), .inl ((cs 0), 4, .inr (.inr (.inr (.inr (va_up (va_up (va_up (va_up f2 0 (some (h 8))) 1 (some (h 8))) 2 (some (h 8))) 3 (some (h 8))))))))] := hD
    refine lv_iload_n hx hb dX11_image_32 rfl (lv_at hl 0 rfl) ?_
    have hP9 := hP.sub (ws' := []) [] rfl
    have hD9 := hD.sub (ws' := []) [] (by decide) rfl
    have hK9 := hK.sub (tys' := []) [] rfl
    refine W.widen (k := 1) (n := 6) (Nat.le_of_ble_eq_true rfl) (Nat.le_of_ble_eq_true rfl) ?_
    refine vx_ret ?_
    exact W.zret (v := 0) hx hb hr rfl (fun t ht0 hW => ⟨⟨0, (), rfl, (show zS_image p0 0 0 from (.inr ⟨rfl, by omega, rfl⟩)), (zE_of hP9 hK9 hD9 ht0 hW)⟩, hS.F ht0⟩) hS.2.2 dX11_image_33
set_option maxHeartbeats 4000000 in
set_option maxRecDepth 100000 in
theorem k_X10_parse (l : Launch) (sz : Nat) (D : va_G) (h cs : Nat → Nat) : Met l yX10_parse (.code yX10_parse cX10_parse 3 (some .int) :: zT) ({ frames := 0, cells := 0, slots := 0, locals := 0 }) (va_Pc [.ref (h 38), .ref (h 1)] (zM D [((h 38), .inr (10, [.ref (h 39), .int 0, .ref (h 40), .int 0, .ref (h 80), .int 0, .int 0]))] [] sz)) (va_Qi (fun (r : Int32) (_ : Unit) => r = 0) (fun _ t => zE D [((h 38), .inr (10, [.ref (h 39), .int 0, .ref (h 40), .int 0, .ref (h 80), .int 0, .int 0]))] [] (va_A [((h 38), .inr (10, [.ref (h 39), .int 0, .ref (h 40), .int 0, .ref (h 80), .int 0, .int 0]))] sz) t) (va_A [((h 38), .inr (10, [.ref (h 39), .int 0, .ref (h 40), .int 0, .ref (h 80), .int 0, .int 0]))] sz)) 0 0 (va_A [((h 38), .inr (10, [.ref (h 39), .int 0, .ref (h 40), .int 0, .ref (h 80), .int 0, .int 0]))] sz) := by
  refine Met.ofW (cc := cX10_parse) (maxL := 3) (ret := (some .int)) (by decide) rfl ?_
  intro p e s m args below meth c s₁ B hml hv
  obtain ⟨rfl, hsz, hP, hK, hD0⟩ := hv
  have hx := B.exec
  have hb := B.bytes
  have hr := B.returns
  have hts := atoms_spec (ws := (.code yX10_parse cX10_parse 3 (some .int) :: zT)) B.pre
  have ht : ∀ w ∈ zT, w.before _ s = true := fun w h => hts w (List.mem_cons_of_mem _ h)
  have hown : s.vm.findClass RX10 = some m.cls := findClass_of_methodNamed B.named
  have hlocks := B.notSynchronized
  subst hsz
  have hD := hD0.self (sz := s.heap.size)
  generalize hAe : va_A [((h 38), .inr (10, [.ref (h 39), .int 0, .ref (h 40), .int 0, .ref (h 80), .int 0, .int 0]))] s.heap.size = A at hD ⊢
  have hA : ∀ q : Nat, s.heap.size ≤ q → A q := fun q h => by rw [← hAe]; exact Or.inr h
  have hS : va_S A s.heap s.heap [] := va_S.rf
  have hP : va_P D vwCl [((h 38), .inr (10, [.ref (h 39), .int 0, .ref (h 40), .int 0, .ref (h 80), .int 0, .int 0]))] s.heap := hP
  have hl := lv_entry ([.ref (h 38), .ref (h 1)]) (n := 3) (Nat.le_of_ble_eq_true rfl)
  rw [lg_entry_eq]
  generalize (lg_sl ([.ref (h 38), .ref (h 1)]) ++ List.replicate (3 - (lg_sl ([.ref (h 38), .ref (h 1)])).length) Slot.unset).toArray = ls at hl ⊢
  have hl : lv_has ls 3 [(0, .ref (h 38)), (1, .ref (h 1))] := hl
  skip
  refine lv_aload_n hx hb dX10_parse_0 rfl (lv_at hl 0 rfl) ?_
  refine lv_iconst (v := 0) hx hb dX10_parse_1 (by decide) ?_
  refine va_put (D := D) (ci := 10) (v := .int 0) (ty := .int) (C := RX10) (T := TX10) (N := 7) hx hb ht zinX10 tyX10 tyX10_ok nmX10 hown hK hP hD hS 0 rfl rfl 3 (by decide) (ht _ zw_215) (fun _ h9 => h9) rfl (by decide +kernel) rfl rfl (Nat.le_of_ble_eq_true rfl) dX10_parse_2 (fun H locs hP hD hS => ?_)
  have hP : va_P D vwCl [((h 38), .inr (10, [.ref (h 39), .int 0, .ref (h 40), .int 0, .ref (h 80), .int 0, .int 0]))] H := hP
  have hD : va_D A [((h 38), .inr (10, [.ref (h 39), .int 0, .ref (h 40), .int 0, .ref (h 80), .int 0, .int 0]))] := hD
  refine lv_aload_n hx hb dX10_parse_5 rfl (lv_at hl 0 rfl) ?_
  refine lv_iconst (v := 0) hx hb dX10_parse_6 (by decide) ?_
  refine va_put (D := D) (ci := 10) (v := .int 0) (ty := .int) (C := RX10) (T := TX10) (N := 7) hx hb ht zinX10 tyX10 tyX10_ok nmX10 hown hK hP hD hS 0 rfl rfl 5 (by decide) (ht _ zw_217) (fun _ h9 => h9) rfl (by decide +kernel) rfl rfl (Nat.le_of_ble_eq_true rfl) dX10_parse_7 (fun H locs hP hD hS => ?_)
  have hP : va_P D vwCl [((h 38), .inr (10, [.ref (h 39), .int 0, .ref (h 40), .int 0, .ref (h 80), .int 0, .int 0]))] H := hP
  have hD : va_D A [((h 38), .inr (10, [.ref (h 39), .int 0, .ref (h 40), .int 0, .ref (h 80), .int 0, .int 0]))] := hD
  refine lv_aload_n hx hb dX10_parse_10 rfl (lv_at hl 0 rfl) ?_
  refine lv_iconst (v := 0) hx hb dX10_parse_11 (by decide) ?_
  refine va_put (D := D) (ci := 10) (v := .int 0) (ty := .int) (C := RX10) (T := TX10) (N := 7) hx hb ht zinX10 tyX10 tyX10_ok nmX10 hown hK hP hD hS 0 rfl rfl 6 (by decide) (ht _ zw_218) (fun _ h9 => h9) rfl (by decide +kernel) rfl rfl (Nat.le_of_ble_eq_true rfl) dX10_parse_12 (fun H locs hP hD hS => ?_)
  have hP : va_P D vwCl [((h 38), .inr (10, [.ref (h 39), .int 0, .ref (h 40), .int 0, .ref (h 80), .int 0, .int 0]))] H := hP
  have hD : va_D A [((h 38), .inr (10, [.ref (h 39), .int 0, .ref (h 40), .int 0, .ref (h 80), .int 0, .int 0]))] := hD
  refine lv_iconst (v := 0) hx hb dX10_parse_15 (by decide) ?_
  refine lv_istore_n (lv' := [(2, .int 0), (0, .ref (h 38)), (1, .ref (h 1))]) hx hb dX10_parse_16 rfl hl (by decide) rfl (fun ls hl => ?_)
  refine lv_iload_n hx hb dX10_parse_17 rfl (lv_at hl 0 rfl) ?_
  refine lv_aload_n hx hb dX10_parse_18 rfl (lv_at hl 1 rfl) ?_
  refine va_get (D := D) (ci := 10) (v := .int 0) (C := RX10) (T := TX10) (N := 7) hx hb ht zinX10 hown hK hP 0 rfl rfl 1 (by decide) (ht _ zw_213) (fun _ h9 => h9) rfl dX10_parse_19 ?_
  refine lv_icmp_ge (tgt := 58) hx hb dX10_parse_22 (by decide) (fun c_1 => ?_) (fun c_1 => ?_)
  · skip
    refine lv_aload_n hx hb dX10_parse_58 rfl (lv_at hl 1 rfl) ?_
    refine va_get (D := D) (ci := 10) (v := .int 0) (C := RX10) (T := TX10) (N := 7) hx hb ht zinX10 hown hK hP 0 rfl rfl 6 (by decide) (ht _ zw_218) (fun _ h9 => h9) rfl dX10_parse_59 ?_
    refine lv_iconst (v := 3) hx hb dX10_parse_62 (by decide) ?_
    refine lv_icmp_ne (tgt := 70) hx hb dX10_parse_63 (by decide) (fun c_2 => ?_) (fun c_2 => ?_)
    · skip
      refine lv_aload_n hx hb dX10_parse_70 rfl (lv_at hl 1 rfl) ?_
      refine va_get (D := D) (ci := 10) (v := .int 0) (C := RX10) (T := TX10) (N := 7) hx hb ht zinX10 hown hK hP 0 rfl rfl 1 (by decide) (ht _ zw_213) (fun _ h9 => h9) rfl dX10_parse_71 ?_
      have hP9 := hP.sub (ws' := [((h 38), .inr (10, [.ref (h 39), .int 0, .ref (h 40), .int 0, .ref (h 80), .int 0, .int 0]))]) [0] rfl
      have hD9 := hD.sub (ws' := [((h 38), .inr (10, [.ref (h 39), .int 0, .ref (h 40), .int 0, .ref (h 80), .int 0, .int 0]))]) [0] (by decide) rfl
      have hK9 := hK.sub (tys' := []) [] rfl
      refine W.widen (k := 0) (n := 0) (Nat.le_of_ble_eq_true rfl) (Nat.le_of_ble_eq_true rfl) ?_
      exact W.iret (v := 0) hx hb hr (fun t ht0 hW => ⟨⟨0, (), rfl, rfl, (zE_of hP9 hK9 hD9 ht0 hW)⟩, hS.F ht0⟩) hS.2.2 dX10_parse_74
    · skip
      exact absurd c_2 (by decide)
  · skip
    exact absurd c_1 (by decide)
set_option maxHeartbeats 4000000 in
set_option maxRecDepth 100000 in
theorem k_X11_read (l : Launch) (hl0 : l.stackTraces = false) (sz : Nat) (D : va_G) (h cs : Nat → Nat) (p0 : Int32) : vx_Met l yX11_read (.code yX11_read cX11_read 2 (some .int) :: zT) ({ frames := 7, cells := 2, slots := 12, locals := 111 }) (va_Pc [.ref (h 0), .int p0] (zW D [((h 0), .inr (11, [.ref (h 1), .ref (h 9), .int 0, .int 0, .ref (h 20), .ref (h 37), .int 0, .ref (h 38), .ref (h 42), .ref (h 43), .ref (h 44), .ref (h 45), .ref (h 46), .ref (h 47), .ref (h 48)])), ((h 1), .inr (8, [.ref (h 2), .int 0, .ref (h 3), .ref (h 4), .int 0, .ref (h 5), .int 0, .ref (h 6), .int 0, .ref (h 7), .int 0])), ((h 38), .inr (10, [.ref (h 39), .int 0, .ref (h 40), .int 0, .ref (h 80), .int 0, .int 0]))] [] sz)) (va_Qi (fun (r : Int32) (_ : Unit) => zS_read p0 0 r) (fun _ t => zE D [] [] (va_A [((h 0), .inr (11, [.ref (h 1), .ref (h 9), .int 0, .int 0, .ref (h 20), .ref (h 37), .int 0, .ref (h 38), .ref (h 42), .ref (h 43), .ref (h 44), .ref (h 45), .ref (h 46), .ref (h 47), .ref (h 48)])), ((h 1), .inr (8, [.ref (h 2), .int 0, .ref (h 3), .ref (h 4), .int 0, .ref (h 5), .int 0, .ref (h 6), .int 0, .ref (h 7), .int 0])), ((h 38), .inr (10, [.ref (h 39), .int 0, .ref (h 40), .int 0, .ref (h 80), .int 0, .int 0]))] sz) t) (va_A [((h 0), .inr (11, [.ref (h 1), .ref (h 9), .int 0, .int 0, .ref (h 20), .ref (h 37), .int 0, .ref (h 38), .ref (h 42), .ref (h 43), .ref (h 44), .ref (h 45), .ref (h 46), .ref (h 47), .ref (h 48)])), ((h 1), .inr (8, [.ref (h 2), .int 0, .ref (h 3), .ref (h 4), .int 0, .ref (h 5), .int 0, .ref (h 6), .int 0, .ref (h 7), .int 0])), ((h 38), .inr (10, [.ref (h 39), .int 0, .ref (h 40), .int 0, .ref (h 80), .int 0, .int 0]))] sz)) (vx_X (fun _ : Unit => True) (fun E _ _ => (E = "java/lang/IndexOutOfBoundsException" ∧ zS_read p0 1 0) ∨ (E = "java/lang/IllegalArgumentException" ∧ zS_read p0 2 0)) (va_A [((h 0), .inr (11, [.ref (h 1), .ref (h 9), .int 0, .int 0, .ref (h 20), .ref (h 37), .int 0, .ref (h 38), .ref (h 42), .ref (h 43), .ref (h 44), .ref (h 45), .ref (h 46), .ref (h 47), .ref (h 48)])), ((h 1), .inr (8, [.ref (h 2), .int 0, .ref (h 3), .ref (h 4), .int 0, .ref (h 5), .int 0, .ref (h 6), .int 0, .ref (h 7), .int 0])), ((h 38), .inr (10, [.ref (h 39), .int 0, .ref (h 40), .int 0, .ref (h 80), .int 0, .int 0]))] sz)) 2 12 (va_A [((h 0), .inr (11, [.ref (h 1), .ref (h 9), .int 0, .int 0, .ref (h 20), .ref (h 37), .int 0, .ref (h 38), .ref (h 42), .ref (h 43), .ref (h 44), .ref (h 45), .ref (h 46), .ref (h 47), .ref (h 48)])), ((h 1), .inr (8, [.ref (h 2), .int 0, .ref (h 3), .ref (h 4), .int 0, .ref (h 5), .int 0, .ref (h 6), .int 0, .ref (h 7), .int 0])), ((h 38), .inr (10, [.ref (h 39), .int 0, .ref (h 40), .int 0, .ref (h 80), .int 0, .int 0]))] sz) := by
  refine vx_ofW (cc := cX11_read) (maxL := 2) (ret := (some .int)) (by decide) rfl ?_
  intro p e s m args below meth c s₁ B hml hexc hv
  obtain ⟨rfl, hEx, hsz, hP, hK, hD0⟩ := hv
  have hx := B.exec
  have hb := B.bytes
  have hr := B.returns
  have hts := atoms_spec (ws := (.code yX11_read cX11_read 2 (some .int) :: zT)) B.pre
  have ht : ∀ w ∈ zT, w.before _ s = true := fun w h => hts w (List.mem_cons_of_mem _ h)
  have hown : s.vm.findClass RX11 = some m.cls := findClass_of_methodNamed B.named
  have hlocks := B.notSynchronized
  subst hsz
  have hD := hD0.self (sz := s.heap.size)
  generalize hAe : va_A [((h 0), .inr (11, [.ref (h 1), .ref (h 9), .int 0, .int 0, .ref (h 20), .ref (h 37), .int 0, .ref (h 38), .ref (h 42), .ref (h 43), .ref (h 44), .ref (h 45), .ref (h 46), .ref (h 47), .ref (h 48)])), ((h 1), .inr (8, [.ref (h 2), .int 0, .ref (h 3), .ref (h 4), .int 0, .ref (h 5), .int 0, .ref (h 6), .int 0, .ref (h 7), .int 0])), ((h 38), .inr (10, [.ref (h 39), .int 0, .ref (h 40), .int 0, .ref (h 80), .int 0, .int 0]))] s.heap.size = A at hD hEx ⊢
  have hA : ∀ q : Nat, s.heap.size ≤ q → A q := fun q h => by rw [← hAe]; exact Or.inr h
  have hS : va_S A s.heap s.heap [] := va_S.rf
  have hP : va_P D vwCl [((h 0), .inr (11, [.ref (h 1), .ref (h 9), .int 0, .int 0, .ref (h 20), .ref (h 37), .int 0, .ref (h 38), .ref (h 42), .ref (h 43), .ref (h 44), .ref (h 45), .ref (h 46), .ref (h 47), .ref (h 48)])), ((h 1), .inr (8, [.ref (h 2), .int 0, .ref (h 3), .ref (h 4), .int 0, .ref (h 5), .int 0, .ref (h 6), .int 0, .ref (h 7), .int 0])), ((h 38), .inr (10, [.ref (h 39), .int 0, .ref (h 40), .int 0, .ref (h 80), .int 0, .int 0]))] s.heap := hP
  have hl := lv_entry ([.ref (h 0), .int p0]) (n := 2) (Nat.le_of_ble_eq_true rfl)
  rw [lg_entry_eq]
  generalize (lg_sl ([.ref (h 0), .int p0]) ++ List.replicate (2 - (lg_sl ([.ref (h 0), .int p0])).length) Slot.unset).toArray = ls at hl ⊢
  have hl : lv_has ls 2 [(0, .ref (h 0)), (1, .int p0)] := hl
  skip
  refine lv_iload_n hx hb dX11_read_0 rfl (lv_at hl 1 rfl) ?_
  refine lv_bipush (v := 10) hx hb dX11_read_1 (by decide) ?_
  have hPc := hP.sub (ws' := []) [] rfl
  have hDc := hD.sub (ws' := []) [] (by decide) rfl
  have hKc := hK.sub (tys' := []) [] rfl
  have hFc := va_free (wc := []) hD hS hA [] rfl
  refine vx_callv (vx_runS (As := [.int p0, .int 10]) (rest := []) ⟨hx, hb, hml, hown, ht⟩ (k_X11_checkIndex l hl0 _ D p0 10) (va_cwS 2 ht (zG_S zw_402 zw_403 zw_404 zw_405) rfl rfl rfl (by decide +kernel) ⟨Nat.le_of_ble_eq_true rfl, Nat.le_of_ble_eq_true rfl⟩) (zW_S hEx hS hFc hPc hKc hDc) rfl rfl hl.1 rfl (lv_room (Nat.le_of_ble_eq_true rfl)) dX11_read_3 ⟨Nat.le_of_ble_eq_true rfl, Nat.le_of_ble_eq_true rfl⟩) hS (fun q _ h => hFc q h) hFc (fun q _ h => hFc q h) (fun E ce q9 uu t H1 locs1 ht0 hvm hpx hB hz1 hk1 hS hcell hv hcl => ?_) (fun u_1 t H1 locs ht0 hvm hw_1 hB hz1 hk1 hS => ?_)
  · exact vx_out (fun x hx => (hexc x hx).elim) hlocks hcell hv hcl (fun t2 h2 hv2 => ⟨(), trivial, (by obtain ⟨hE, hb9⟩ := hB; (try simp only [Int32.reduceToInt] at hb9); exact .inl ⟨hE, (show zS_read p0 1 0 from (.inl ⟨rfl, by omega⟩))⟩), hS.F h2⟩) hS.2.2 (Nat.le_of_ble_eq_true rfl) (Nat.le_of_ble_eq_true rfl)
  obtain ⟨hP1, hK1, hD1⟩ := hB
  rw [ht0] at hP1
  have hK1 := va_K.moved hvm.symm hK1
  obtain ⟨hP, hD⟩ := va_join (wr := [((h 0), .inr (11, [.ref (h 1), .ref (h 9), .int 0, .int 0, .ref (h 20), .ref (h 37), .int 0, .ref (h 38), .ref (h 42), .ref (h 43), .ref (h 44), .ref (h 45), .ref (h 46), .ref (h 47), .ref (h 48)])), ((h 1), .inr (8, [.ref (h 2), .int 0, .ref (h 3), .ref (h 4), .int 0, .ref (h 5), .int 0, .ref (h 6), .int 0, .ref (h 7), .int 0])), ((h 38), .inr (10, [.ref (h 39), .int 0, .ref (h 40), .int 0, .ref (h 80), .int 0, .int 0]))]) (w1 := []) hP hD [] [0, 1, 2] rfl rfl (by decide) (by decide) hk1 hFc hP1 hD1
  generalize H1 = H at hP hS ⊢
  have hP : va_P D vwCl [((h 0), .inr (11, [.ref (h 1), .ref (h 9), .int 0, .int 0, .ref (h 20), .ref (h 37), .int 0, .ref (h 38), .ref (h 42), .ref (h 43), .ref (h 44), .ref (h 45), .ref (h 46), .ref (h 47), .ref (h 48)])), ((h 1), .inr (8, [.ref (h 2), .int 0, .ref (h 3), .ref (h 4), .int 0, .ref (h 5), .int 0, .ref (h 6), .int 0, .ref (h 7), .int 0])), ((h 38), .inr (10, [.ref (h 39), .int 0, .ref (h 40), .int 0, .ref (h 80), .int 0, .int 0]))] H := hP
  have hD : va_D A [((h 0), .inr (11, [.ref (h 1), .ref (h 9), .int 0, .int 0, .ref (h 20), .ref (h 37), .int 0, .ref (h 38), .ref (h 42), .ref (h 43), .ref (h 44), .ref (h 45), .ref (h 46), .ref (h 47), .ref (h 48)])), ((h 1), .inr (8, [.ref (h 2), .int 0, .ref (h 3), .ref (h 4), .int 0, .ref (h 5), .int 0, .ref (h 6), .int 0, .ref (h 7), .int 0])), ((h 38), .inr (10, [.ref (h 39), .int 0, .ref (h 40), .int 0, .ref (h 80), .int 0, .int 0]))] := hD
  refine W.widen (k := 1) (n := 6) (Nat.le_of_ble_eq_true rfl) (Nat.le_of_ble_eq_true rfl) ?_
  simp only [Int32.reduceToInt] at hw_1
  refine lv_aload_n hx hb dX11_read_6 rfl (lv_at hl 0 rfl) ?_
  refine va_get (D := D) (ci := 11) (v := .ref (h 38)) (C := RX11) (T := TX11) (N := 15) hx hb ht zinX11 hown hK hP 0 rfl rfl 7 (by decide) (ht _ zw_367) (fun _ h9 => h9) rfl dX11_read_7 ?_
  refine lv_aload_n hx hb dX11_read_10 rfl (lv_at hl 0 rfl) ?_
  refine va_get (D := D) (ci := 11) (v := .ref (h 1)) (C := RX11) (T := TX11) (N := 15) hx hb ht zinX11 hown hK hP 0 rfl rfl 0 (by decide) (ht _ zw_353) (fun _ h9 => h9) rfl dX11_read_11 ?_
  have hPc := hP.sub (ws' := [((h 38), .inr (10, [.ref (h 39), .int 0, .ref (h 40), .int 0, .ref (h 80), .int 0, .int 0]))]) [2] rfl
  have hDc := hD.sub (ws' := [((h 38), .inr (10, [.ref (h 39), .int 0, .ref (h 40), .int 0, .ref (h 80), .int 0, .int 0]))]) [2] (by decide) rfl
  have hKc := hK.sub (tys' := []) [] rfl
  have hFc := va_free (wc := [((h 38), .inr (10, [.ref (h 39), .int 0, .ref (h 40), .int 0, .ref (h 80), .int 0, .int 0]))]) hD hS hA [2] rfl
  refine va_calli (va_runV (As := [.ref (h 1)]) (rest := []) ⟨hx, hb, hml, hown, ht⟩ (k_X10_parse l _ D h cs) (cwV 1 ht (zG_V zw_508 zw_509 zw_510 zw_363 zw_511) rfl rfl rfl (by decide +kernel) ⟨Nat.le_of_ble_eq_true rfl, Nat.le_of_ble_eq_true rfl⟩) (zM_V (va_recv hK hP (ci := 10) (q0 := 2) rfl rfl) hPc hKc hDc) rfl rfl hl.1 rfl (lv_room (Nat.le_of_ble_eq_true rfl)) dX11_read_14 ⟨Nat.le_of_ble_eq_true rfl, Nat.le_of_ble_eq_true rfl⟩) hS (fun q _ h => hFc q h) hFc (fun r_2 u_2 t H1 locs ht0 hvm hw_2 hB hz1 hk1 hS => ?_)
  obtain ⟨hP1, hK1, hD1⟩ := hB
  rw [ht0] at hP1
  have hK1 := va_K.moved hvm.symm hK1
  obtain ⟨hP, hD⟩ := va_join (wr := [((h 0), .inr (11, [.ref (h 1), .ref (h 9), .int 0, .int 0, .ref (h 20), .ref (h 37), .int 0, .ref (h 38), .ref (h 42), .ref (h 43), .ref (h 44), .ref (h 45), .ref (h 46), .ref (h 47), .ref (h 48)])), ((h 1), .inr (8, [.ref (h 2), .int 0, .ref (h 3), .ref (h 4), .int 0, .ref (h 5), .int 0, .ref (h 6), .int 0, .ref (h 7), .int 0]))]) (w1 := [((h 38), .inr (10, [.ref (h 39), .int 0, .ref (h 40), .int 0, .ref (h 80), .int 0, .int 0]))]) hP hD [2] [0, 1] rfl rfl (by decide) (by decide) hk1 hFc hP1 hD1
  generalize H1 = H at hP hS ⊢
  have hP : va_P D vwCl [((h 0), .inr (11, [.ref (h 1), .ref (h 9), .int 0, .int 0, .ref (h 20), .ref (h 37), .int 0, .ref (h 38), .ref (h 42), .ref (h 43), .ref (h 44), .ref (h 45), .ref (h 46), .ref (h 47), .ref (h 48)])), ((h 1), .inr (8, [.ref (h 2), .int 0, .ref (h 3), .ref (h 4), .int 0, .ref (h 5), .int 0, .ref (h 6), .int 0, .ref (h 7), .int 0])), ((h 38), .inr (10, [.ref (h 39), .int 0, .ref (h 40), .int 0, .ref (h 80), .int 0, .int 0]))] H := hP
  have hD : va_D A [((h 0), .inr (11, [.ref (h 1), .ref (h 9), .int 0, .int 0, .ref (h 20), .ref (h 37), .int 0, .ref (h 38), .ref (h 42), .ref (h 43), .ref (h 44), .ref (h 45), .ref (h 46), .ref (h 47), .ref (h 48)])), ((h 1), .inr (8, [.ref (h 2), .int 0, .ref (h 3), .ref (h 4), .int 0, .ref (h 5), .int 0, .ref (h 6), .int 0, .ref (h 7), .int 0])), ((h 38), .inr (10, [.ref (h 39), .int 0, .ref (h 40), .int 0, .ref (h 80), .int 0, .int 0]))] := hD
  obtain rfl : r_2 = 0 := hw_2
  refine lv_iconst (v := (-1)) hx hb dX11_read_17 (by decide) ?_
  refine lv_icmp_eq (tgt := 31) hx hb dX11_read_18 (by decide) (fun c_3 => ?_) (fun c_3 => ?_)
  · skip
    exact absurd c_3 (by decide)
  · skip
    exact zthrow (k := 2) (names := ["java/lang/RuntimeException", "java/lang/Exception"]) (ix := 7) (rx := zSix) (text := "the text has an error") (is := 158) hx hb hl0 (by decide) (by decide) (by decide +kernel) (by decide +kernel) (by decide +kernel) (by decide +kernel) zw_155 zw_156 zAt_IAE zOt_IAE (by decide +kernel) (by decide +kernel) hown ht hEx hS (hl.1.trans hml.symm) dX11_read_21 dX11_read_24 (.inl ⟨dX11_read_25, rfl⟩) dX11_read_27 dX11_read_30 hexc (Nat.le_of_ble_eq_true rfl) (Nat.le_of_ble_eq_true rfl) (Nat.le_of_ble_eq_true rfl) (Nat.le_of_ble_eq_true rfl) hlocks (fun t hvm hF => ⟨(), trivial, (.inr (⟨rfl, (show zS_read p0 2 0 from (.inr ⟨rfl, by omega⟩))⟩)), hF⟩) hS.2.2 (Nat.le_of_ble_eq_true rfl) (Nat.le_of_ble_eq_true rfl)
set_option maxHeartbeats 4000000 in
set_option maxRecDepth 100000 in
theorem k_X11_errorPlace (l : Launch) (sz : Nat) (D : va_G) (h cs : Nat → Nat) : Met l yX11_errorPlace (.code yX11_errorPlace cX11_errorPlace 1 (some .int) :: zT) ({ frames := 1, cells := 0, slots := 0, locals := 22 }) (va_Pc [.ref (h 0)] (zM D [((h 0), .inr (11, [.ref (h 1), .ref (h 9), .int 0, .int 0, .ref (h 20), .ref (h 37), .int 0, .ref (h 38), .ref (h 42), .ref (h 43), .ref (h 44), .ref (h 45), .ref (h 46), .ref (h 47), .ref (h 48)])), ((h 38), .inr (10, [.ref (h 39), .int 0, .ref (h 40), .int 0, .ref (h 80), .int 0, .int 0]))] [] sz)) (va_Qi (fun (r : Int32) (_ : Unit) => r = 0) (fun _ t => zE D [] [] (va_A [((h 0), .inr (11, [.ref (h 1), .ref (h 9), .int 0, .int 0, .ref (h 20), .ref (h 37), .int 0, .ref (h 38), .ref (h 42), .ref (h 43), .ref (h 44), .ref (h 45), .ref (h 46), .ref (h 47), .ref (h 48)])), ((h 38), .inr (10, [.ref (h 39), .int 0, .ref (h 40), .int 0, .ref (h 80), .int 0, .int 0]))] sz) t) (va_A [((h 0), .inr (11, [.ref (h 1), .ref (h 9), .int 0, .int 0, .ref (h 20), .ref (h 37), .int 0, .ref (h 38), .ref (h 42), .ref (h 43), .ref (h 44), .ref (h 45), .ref (h 46), .ref (h 47), .ref (h 48)])), ((h 38), .inr (10, [.ref (h 39), .int 0, .ref (h 40), .int 0, .ref (h 80), .int 0, .int 0]))] sz)) 0 0 (va_A [((h 0), .inr (11, [.ref (h 1), .ref (h 9), .int 0, .int 0, .ref (h 20), .ref (h 37), .int 0, .ref (h 38), .ref (h 42), .ref (h 43), .ref (h 44), .ref (h 45), .ref (h 46), .ref (h 47), .ref (h 48)])), ((h 38), .inr (10, [.ref (h 39), .int 0, .ref (h 40), .int 0, .ref (h 80), .int 0, .int 0]))] sz) := by
  refine Met.ofW (cc := cX11_errorPlace) (maxL := 1) (ret := (some .int)) (by decide) rfl ?_
  intro p e s m args below meth c s₁ B hml hv
  obtain ⟨rfl, hsz, hP, hK, hD0⟩ := hv
  have hx := B.exec
  have hb := B.bytes
  have hr := B.returns
  have hts := atoms_spec (ws := (.code yX11_errorPlace cX11_errorPlace 1 (some .int) :: zT)) B.pre
  have ht : ∀ w ∈ zT, w.before _ s = true := fun w h => hts w (List.mem_cons_of_mem _ h)
  have hown : s.vm.findClass RX11 = some m.cls := findClass_of_methodNamed B.named
  have hlocks := B.notSynchronized
  subst hsz
  have hD := hD0.self (sz := s.heap.size)
  generalize hAe : va_A [((h 0), .inr (11, [.ref (h 1), .ref (h 9), .int 0, .int 0, .ref (h 20), .ref (h 37), .int 0, .ref (h 38), .ref (h 42), .ref (h 43), .ref (h 44), .ref (h 45), .ref (h 46), .ref (h 47), .ref (h 48)])), ((h 38), .inr (10, [.ref (h 39), .int 0, .ref (h 40), .int 0, .ref (h 80), .int 0, .int 0]))] s.heap.size = A at hD ⊢
  have hA : ∀ q : Nat, s.heap.size ≤ q → A q := fun q h => by rw [← hAe]; exact Or.inr h
  have hS : va_S A s.heap s.heap [] := va_S.rf
  have hP : va_P D vwCl [((h 0), .inr (11, [.ref (h 1), .ref (h 9), .int 0, .int 0, .ref (h 20), .ref (h 37), .int 0, .ref (h 38), .ref (h 42), .ref (h 43), .ref (h 44), .ref (h 45), .ref (h 46), .ref (h 47), .ref (h 48)])), ((h 38), .inr (10, [.ref (h 39), .int 0, .ref (h 40), .int 0, .ref (h 80), .int 0, .int 0]))] s.heap := hP
  have hl := lv_entry ([.ref (h 0)]) (n := 1) (Nat.le_of_ble_eq_true rfl)
  rw [lg_entry_eq]
  generalize (lg_sl ([.ref (h 0)]) ++ List.replicate (1 - (lg_sl ([.ref (h 0)])).length) Slot.unset).toArray = ls at hl ⊢
  have hl : lv_has ls 1 [(0, .ref (h 0))] := hl
  skip
  refine lv_aload_n hx hb dX11_errorPlace_0 rfl (lv_at hl 0 rfl) ?_
  refine va_get (D := D) (ci := 11) (v := .ref (h 38)) (C := RX11) (T := TX11) (N := 15) hx hb ht zinX11 hown hK hP 0 rfl rfl 7 (by decide) (ht _ zw_367) (fun _ h9 => h9) rfl dX11_errorPlace_1 ?_
  refine lv_aload_n hx hb dX11_errorPlace_4 rfl (lv_at hl 0 rfl) ?_
  refine va_get (D := D) (ci := 11) (v := .ref (h 1)) (C := RX11) (T := TX11) (N := 15) hx hb ht zinX11 hown hK hP 0 rfl rfl 0 (by decide) (ht _ zw_353) (fun _ h9 => h9) rfl dX11_errorPlace_5 ?_
  have hPc := hP.sub (ws' := [((h 38), .inr (10, [.ref (h 39), .int 0, .ref (h 40), .int 0, .ref (h 80), .int 0, .int 0]))]) [1] rfl
  have hDc := hD.sub (ws' := [((h 38), .inr (10, [.ref (h 39), .int 0, .ref (h 40), .int 0, .ref (h 80), .int 0, .int 0]))]) [1] (by decide) rfl
  have hKc := hK.sub (tys' := []) [] rfl
  have hFc := va_free (wc := [((h 38), .inr (10, [.ref (h 39), .int 0, .ref (h 40), .int 0, .ref (h 80), .int 0, .int 0]))]) hD hS hA [1] rfl
  refine va_calli (va_runV (As := [.ref (h 1)]) (rest := []) ⟨hx, hb, hml, hown, ht⟩ (k_X10_parse l _ D h cs) (cwV 1 ht (zG_V zw_508 zw_509 zw_510 zw_363 zw_511) rfl rfl rfl (by decide +kernel) ⟨Nat.le_of_ble_eq_true rfl, Nat.le_of_ble_eq_true rfl⟩) (zM_V (va_recv hK hP (ci := 10) (q0 := 1) rfl rfl) hPc hKc hDc) rfl rfl hl.1 rfl (lv_room (Nat.le_of_ble_eq_true rfl)) dX11_errorPlace_8 ⟨Nat.le_of_ble_eq_true rfl, Nat.le_of_ble_eq_true rfl⟩) hS (fun q _ h => hFc q h) hFc (fun r_1 u_1 t H1 locs ht0 hvm hw_1 hB hz1 hk1 hS => ?_)
  obtain ⟨hP1, hK1, hD1⟩ := hB
  rw [ht0] at hP1
  have hK1 := va_K.moved hvm.symm hK1
  obtain ⟨hP, hD⟩ := va_join (wr := [((h 0), .inr (11, [.ref (h 1), .ref (h 9), .int 0, .int 0, .ref (h 20), .ref (h 37), .int 0, .ref (h 38), .ref (h 42), .ref (h 43), .ref (h 44), .ref (h 45), .ref (h 46), .ref (h 47), .ref (h 48)]))]) (w1 := [((h 38), .inr (10, [.ref (h 39), .int 0, .ref (h 40), .int 0, .ref (h 80), .int 0, .int 0]))]) hP hD [1] [0] rfl rfl (by decide) (by decide) hk1 hFc hP1 hD1
  generalize H1 = H at hP hS ⊢
  have hP : va_P D vwCl [((h 0), .inr (11, [.ref (h 1), .ref (h 9), .int 0, .int 0, .ref (h 20), .ref (h 37), .int 0, .ref (h 38), .ref (h 42), .ref (h 43), .ref (h 44), .ref (h 45), .ref (h 46), .ref (h 47), .ref (h 48)])), ((h 38), .inr (10, [.ref (h 39), .int 0, .ref (h 40), .int 0, .ref (h 80), .int 0, .int 0]))] H := hP
  have hD : va_D A [((h 0), .inr (11, [.ref (h 1), .ref (h 9), .int 0, .int 0, .ref (h 20), .ref (h 37), .int 0, .ref (h 38), .ref (h 42), .ref (h 43), .ref (h 44), .ref (h 45), .ref (h 46), .ref (h 47), .ref (h 48)])), ((h 38), .inr (10, [.ref (h 39), .int 0, .ref (h 40), .int 0, .ref (h 80), .int 0, .int 0]))] := hD
  obtain rfl : r_1 = 0 := hw_1
  have hP9 := hP.sub (ws' := []) [] rfl
  have hD9 := hD.sub (ws' := []) [] (by decide) rfl
  have hK9 := hK.sub (tys' := []) [] rfl
  refine W.widen (k := 0) (n := 0) (Nat.le_of_ble_eq_true rfl) (Nat.le_of_ble_eq_true rfl) ?_
  exact W.iret (v := 0) hx hb hr (fun t ht0 hW => ⟨⟨0, (), rfl, rfl, (zE_of hP9 hK9 hD9 ht0 hW)⟩, hS.F ht0⟩) hS.2.2 dX11_errorPlace_11
set_option maxHeartbeats 4000000 in
set_option maxRecDepth 100000 in
theorem k_X9_placesOf (l : Launch) (x : Int32) (hx4 : 0 ≤ x.toInt ∧ x.toInt ≤ 3) : Met l yX9_placesOf (.code yX9_placesOf cX9_placesOf 1 (some .int) :: zT) ({ frames := 0, cells := 0, slots := 0, locals := 0 }) (va_Pc [.int x] (fun _ => True)) (vp_Si (fun r => r = 0)) 0 0 (fun _ => False) := by
  refine Met.ofW (cc := cX9_placesOf) (maxL := 1) (ret := (some .int)) (by decide) rfl ?_
  intro p e s m args below meth c s₁ B hml hv
  obtain ⟨rfl, -⟩ := hv
  have hx := B.exec
  have hb := B.bytes
  have hr := B.returns
  have hts := atoms_spec (ws := (.code yX9_placesOf cX9_placesOf 1 (some .int) :: zT)) B.pre
  have ht : ∀ w ∈ zT, w.before _ s = true := fun w h => hts w (List.mem_cons_of_mem _ h)
  have hown : s.vm.findClass RX9 = some m.cls := findClass_of_methodNamed B.named
  have hlocks := B.notSynchronized
  have hl := lv_entry ([.int x]) (n := 1) (Nat.le_of_ble_eq_true rfl)
  rw [lg_entry_eq]
  generalize (lg_sl ([.int x]) ++ List.replicate (1 - (lg_sl ([.int x])).length) Slot.unset).toArray = ls at hl ⊢
  have hl : lv_has ls 1 [(0, .int x)] := hl
  skip
  refine lv_iload_n hx hb dX9_placesOf_0 rfl (lv_at hl 0 rfl) ?_
  refine lv_iconst (v := 4) hx hb dX9_placesOf_1 (by decide) ?_
  refine lv_icmp_ge (tgt := 9) hx hb dX9_placesOf_2 (by decide) (fun c_1 => ?_) (fun c_1 => ?_)
  · skip
    simp only [fa_lt, fa_le, fa_eq, Int32.reduceToInt] at c_1
    exfalso; omega
  · skip
    simp only [fa_lt, fa_le, fa_eq, Int32.reduceToInt] at c_1
    refine lv_iconst (v := 0) hx hb dX9_placesOf_5 (by decide) ?_
    refine lv_goto (tgt := 14) hx hb dX9_placesOf_6 (by decide) ?_
    refine W.widen (k := 0) (n := 0) (Nat.le_of_ble_eq_true rfl) (Nat.le_of_ble_eq_true rfl) ?_
    exact W.iret (v := 0) hx hb hr (fun t ht hW => ⟨0, rfl, rfl, ht⟩) (fun q h => nomatch h) dX9_placesOf_14
set_option maxHeartbeats 4000000 in
set_option maxRecDepth 100000 in
theorem k_X9_signOf (l : Launch) (x : Int32) (hx4 : 0 ≤ x.toInt ∧ x.toInt ≤ 3) : Met l yX9_signOf (.code yX9_signOf cX9_signOf 1 (some .int) :: zT) ({ frames := 0, cells := 0, slots := 0, locals := 0 }) (va_Pc [.int x] (fun _ => True)) (vp_Si (fun r => r = -1)) 0 0 (fun _ => False) := by
  refine Met.ofW (cc := cX9_signOf) (maxL := 1) (ret := (some .int)) (by decide) rfl ?_
  intro p e s m args below meth c s₁ B hml hv
  obtain ⟨rfl, -⟩ := hv
  have hx := B.exec
  have hb := B.bytes
  have hr := B.returns
  have hts := atoms_spec (ws := (.code yX9_signOf cX9_signOf 1 (some .int) :: zT)) B.pre
  have ht : ∀ w ∈ zT, w.before _ s = true := fun w h => hts w (List.mem_cons_of_mem _ h)
  have hown : s.vm.findClass RX9 = some m.cls := findClass_of_methodNamed B.named
  have hlocks := B.notSynchronized
  have hl := lv_entry ([.int x]) (n := 1) (Nat.le_of_ble_eq_true rfl)
  rw [lg_entry_eq]
  generalize (lg_sl ([.int x]) ++ List.replicate (1 - (lg_sl ([.int x])).length) Slot.unset).toArray = ls at hl ⊢
  have hl : lv_has ls 1 [(0, .int x)] := hl
  skip
  refine lv_iload_n hx hb dX9_signOf_0 rfl (lv_at hl 0 rfl) ?_
  refine lv_iconst (v := 4) hx hb dX9_signOf_1 (by decide) ?_
  refine lv_icmp_ge (tgt := 9) hx hb dX9_signOf_2 (by decide) (fun c_1 => ?_) (fun c_1 => ?_)
  · skip
    simp only [fa_lt, fa_le, fa_eq, Int32.reduceToInt] at c_1
    exfalso; omega
  · skip
    simp only [fa_lt, fa_le, fa_eq, Int32.reduceToInt] at c_1
    refine lv_iconst (v := (-1)) hx hb dX9_signOf_5 (by decide) ?_
    refine lv_goto (tgt := 14) hx hb dX9_signOf_6 (by decide) ?_
    refine W.widen (k := 0) (n := 0) (Nat.le_of_ble_eq_true rfl) (Nat.le_of_ble_eq_true rfl) ?_
    exact W.iret (v := (-1)) hx hb hr (fun t ht hW => ⟨(-1), rfl, rfl, ht⟩) (fun q h => nomatch h) dX9_signOf_14
set_option maxHeartbeats 4000000 in
set_option maxRecDepth 100000 in
theorem k_X9_findEnds (l : Launch) (sz : Nat) (D : va_G) (b q1 q2 q3 : Nat) (cI : ClassId) (f : Nat → Int32) (x : Int32) (hx4 : 0 ≤ x.toInt ∧ x.toInt ≤ 3) (hf : f 0 = x) : Met l yX9_findEnds (.code yX9_findEnds cX9_findEnds 5 none :: zT) ({ frames := 1, cells := 0, slots := 0, locals := 20 }) (va_Pc [.ref b] (zM D [(b, .inr (9, [.ref q1, .ref q2, .ref q3, .int 1, .int 0, .int 0])), (q1, .inl (cI, 1, .inl f)), (q2, .inl (cI, 1, .inl (fun _ => 0)))] [(cI, .int)] sz)) (va_Qv (fun (_ : Unit) => True) (fun _ t => zE D [(b, .inr (9, [.ref q1, .ref q2, .ref q3, .int 1, .int 0, .int 0])), (q1, .inl (cI, 1, .inl f))] [] (va_A [(b, .inr (9, [.ref q1, .ref q2, .ref q3, .int 1, .int 0, .int 0])), (q1, .inl (cI, 1, .inl f)), (q2, .inl (cI, 1, .inl (fun _ => 0)))] sz) t) (va_A [(b, .inr (9, [.ref q1, .ref q2, .ref q3, .int 1, .int 0, .int 0])), (q1, .inl (cI, 1, .inl f)), (q2, .inl (cI, 1, .inl (fun _ => 0)))] sz)) 0 0 (va_A [(b, .inr (9, [.ref q1, .ref q2, .ref q3, .int 1, .int 0, .int 0])), (q1, .inl (cI, 1, .inl f)), (q2, .inl (cI, 1, .inl (fun _ => 0)))] sz) := by
  refine Met.ofW (cc := cX9_findEnds) (maxL := 5) (ret := none) (by decide) rfl ?_
  intro p e s m args below meth c s₁ B hml hv
  obtain ⟨rfl, hsz, hP, hK, hD0⟩ := hv
  have hx := B.exec
  have hb := B.bytes
  have hr := B.returns
  have hts := atoms_spec (ws := (.code yX9_findEnds cX9_findEnds 5 none :: zT)) B.pre
  have ht : ∀ w ∈ zT, w.before _ s = true := fun w h => hts w (List.mem_cons_of_mem _ h)
  have hown : s.vm.findClass RX9 = some m.cls := findClass_of_methodNamed B.named
  have hlocks := B.notSynchronized
  subst hsz
  have hD := hD0.self (sz := s.heap.size)
  generalize hAe : va_A [(b, .inr (9, [.ref q1, .ref q2, .ref q3, .int 1, .int 0, .int 0])), (q1, .inl (cI, 1, .inl f)), (q2, .inl (cI, 1, .inl (fun _ => 0)))] s.heap.size = A at hD ⊢
  have hA : ∀ q : Nat, s.heap.size ≤ q → A q := fun q h => by rw [← hAe]; exact Or.inr h
  have hS : va_S A s.heap s.heap [] := va_S.rf
  have hP : va_P D vwCl [(b, .inr (9, [.ref q1, .ref q2, .ref q3, .int 1, .int 0, .int 0])), (q1, .inl (cI, 1, .inl f)), (q2, .inl (cI, 1, .inl (fun _ => 0)))] s.heap := hP
  have hl := lv_entry ([.ref b]) (n := 5) (Nat.le_of_ble_eq_true rfl)
  rw [lg_entry_eq]
  generalize (lg_sl ([.ref b]) ++ List.replicate (5 - (lg_sl ([.ref b])).length) Slot.unset).toArray = ls at hl ⊢
  have hl : lv_has ls 5 [(0, .ref b)] := hl
  skip
  refine lv_aload_n hx hb dX9_findEnds_0 rfl (lv_at hl 0 rfl) ?_
  refine va_get (D := D) (ci := 9) (v := .int 1) (C := RX9) (T := TX9) (N := 6) hx hb ht zinX9 hown hK hP 0 rfl rfl 3 (by decide) (ht _ zw_512) (fun _ h9 => h9) rfl dX9_findEnds_1 ?_
  refine lv_iconst (v := 1) hx hb dX9_findEnds_4 (by decide) ?_
  refine lv_isub hx hb dX9_findEnds_5 ?_
  refine lv_topi (fun x_1 e_1 => ?_)
  obtain rfl : x_1 = 0 := e_1.trans (by decide)
  refine lv_istore_n (lv' := [(1, .int 0), (0, .ref b)]) hx hb dX9_findEnds_6 rfl hl (by decide) rfl (fun ls hl => ?_)
  refine lv_iload_n hx hb dX9_findEnds_7 rfl (lv_at hl 0 rfl) ?_
  refine lv_if_lt (tgt := 68) hx hb dX9_findEnds_8 (by decide) (fun c_2 => ?_) (fun c_2 => ?_)
  · skip
    exact absurd c_2 (by decide)
  · skip
    refine lv_iload_n hx hb dX9_findEnds_11 rfl (lv_at hl 0 rfl) ?_
    refine lv_iconst (v := 1) hx hb dX9_findEnds_12 (by decide) ?_
    refine lv_iadd hx hb dX9_findEnds_13 ?_
    refine lv_topi (fun x_3 e_3 => ?_)
    obtain rfl : x_3 = 1 := e_3.trans (by decide)
    refine lv_istore_n (lv' := [(2, .int 1), (1, .int 0), (0, .ref b)]) hx hb dX9_findEnds_14 rfl hl (by decide) rfl (fun ls hl => ?_)
    refine lv_aload_n hx hb dX9_findEnds_15 rfl (lv_at hl 2 rfl) ?_
    refine va_get (D := D) (ci := 9) (v := .ref q1) (C := RX9) (T := TX9) (N := 6) hx hb ht zinX9 hown hK hP 0 rfl rfl 0 (by decide) (ht _ zw_227) (fun _ h9 => h9) rfl dX9_findEnds_16 ?_
    refine lv_iload_n hx hb dX9_findEnds_19 rfl (lv_at hl 1 rfl) ?_
    refine va_iald hx hb hK hP 1 0 rfl rfl (vp_in_iff.mpr (by decide)) dX9_findEnds_20 ?_
    refine W.eq (g2 := F0 m 21 ls (.int x :: [])) (by show F0 m _ ls (.int (f 0) :: _) = _; rw [hf]) ?_
    refine vp_callSi (va_runS (As := [.int x]) (rest := []) ⟨hx, hb, hml, hown, ht⟩ (k_X9_placesOf l x hx4) (va_cwS 1 ht (zG_S zw_513 zw_514 zw_258 zw_515) rfl rfl rfl (by decide +kernel) ⟨Nat.le_of_ble_eq_true rfl, Nat.le_of_ble_eq_true rfl⟩) zN_S rfl rfl hl.1 rfl (lv_room (Nat.le_of_ble_eq_true rfl)) dX9_findEnds_21 ⟨Nat.le_of_ble_eq_true rfl, Nat.le_of_ble_eq_true rfl⟩).run (fun r_5 hw_5 => ?_)
    obtain rfl : r_5 = 0 := hw_5
    refine lv_istore_n (lv' := [(3, .int 0), (2, .int 1), (1, .int 0), (0, .ref b)]) hx hb dX9_findEnds_24 rfl hl (by decide) rfl (fun ls hl => ?_)
    refine lv_iconst (v := 0) hx hb dX9_findEnds_25 (by decide) ?_
    refine lv_istore (lv' := [(4, .int 0), (3, .int 0), (2, .int 1), (1, .int 0), (0, .ref b)]) hx hb dX9_findEnds_26 hl (by decide) rfl (fun ls hl => ?_)
    refine lv_iload hx hb dX9_findEnds_28 (lv_at hl 0 rfl) ?_
    refine lv_iload_n hx hb dX9_findEnds_30 rfl (lv_at hl 1 rfl) ?_
    refine lv_icmp_ge (tgt := 55) hx hb dX9_findEnds_31 (by decide) (fun c_6 => ?_) (fun c_6 => ?_)
    · skip
      refine lv_aload_n hx hb dX9_findEnds_55 rfl (lv_at hl 4 rfl) ?_
      refine va_get (D := D) (ci := 9) (v := .ref q2) (C := RX9) (T := TX9) (N := 6) hx hb ht zinX9 hown hK hP 0 rfl rfl 1 (by decide) (ht _ zw_228) (fun _ h9 => h9) rfl dX9_findEnds_56 ?_
      refine lv_iload_n hx hb dX9_findEnds_59 rfl (lv_at hl 3 rfl) ?_
      refine lv_iload_n hx hb dX9_findEnds_60 rfl (lv_at hl 2 rfl) ?_
      refine va_iast hx hb hK hP hD hS 2 0 rfl rfl (vp_in_iff.mpr (by decide)) dX9_findEnds_61 (fun H locs hP hD hS => ?_)
      have hP : va_P D vwCl [(b, .inr (9, [.ref q1, .ref q2, .ref q3, .int 1, .int 0, .int 0])), (q1, .inl (cI, 1, .inl f)), (q2, .inl (cI, 1, .inl (upd (fun _ => 0) 0 1)))] H := hP
      have hD : va_D A [(b, .inr (9, [.ref q1, .ref q2, .ref q3, .int 1, .int 0, .int 0])), (q1, .inl (cI, 1, .inl f)), (q2, .inl (cI, 1, .inl (upd (fun _ => 0) 0 1)))] := hD
      refine lv_iinc (v := (-1)) (lv' := [(1, .int (-1)), (4, .int 0), (3, .int 0), (2, .int 1), (0, .ref b)]) hx hb dX9_findEnds_62 hl (k := 3) rfl (by decide) (by decide) rfl (fun ls hl => ?_)
      refine lv_goto (tgt := 7) hx hb dX9_findEnds_65 (by decide) ?_
      refine lv_iload_n hx hb dX9_findEnds_7 rfl (lv_at hl 0 rfl) ?_
      refine lv_if_lt (tgt := 68) hx hb dX9_findEnds_8 (by decide) (fun c_8 => ?_) (fun c_8 => ?_)
      · skip
        have hP9 := hP.sub (ws' := [(b, .inr (9, [.ref q1, .ref q2, .ref q3, .int 1, .int 0, .int 0])), (q1, .inl (cI, 1, .inl f))]) [0, 1] rfl
        have hD9 := hD.sub (ws' := [(b, .inr (9, [.ref q1, .ref q2, .ref q3, .int 1, .int 0, .int 0])), (q1, .inl (cI, 1, .inl f))]) [0, 1] (by decide) rfl
        have hK9 := hK.sub (tys' := []) [] rfl
        refine W.widen (k := 0) (n := 0) (Nat.le_of_ble_eq_true rfl) (Nat.le_of_ble_eq_true rfl) ?_
        exact W.vret hx hb hr (fun t ht0 hW => ⟨⟨(), rfl, trivial, (zE_of hP9 hK9 hD9 ht0 hW)⟩, hS.F ht0⟩) hS.2.2 dX9_findEnds_68
      · skip
        exact absurd c_8 (by decide)
    · skip
      exact absurd c_6 (by decide)
set_option maxHeartbeats 4000000 in
set_option maxRecDepth 100000 in
theorem k_X9_settle (l : Launch) (sz : Nat) (D : va_G) (b q1 q2 q3 : Nat) (cI : ClassId) (f : Nat → Int32) (x : Int32) (hx4 : 0 ≤ x.toInt ∧ x.toInt ≤ 3) (hf : f 0 = x) (sg : Nat) : Met l yX9_settle (.code yX9_settle cX9_settle 4 none :: zT) ({ frames := 2, cells := 0, slots := 0, locals := 44 }) (va_Pc [.ref b, .ref sg] (zM D [(b, .inr (9, [.ref q1, .ref q2, .ref q3, .int 1, .int 0, .int 0])), (q1, .inl (cI, 1, .inl f)), (q2, .inl (cI, 1, .inl (fun _ => 0))), (q3, .inl (cI, 1, .inl (fun _ => 0)))] [(cI, .int)] sz)) (va_Qv (fun (_ : Int32) => True) (fun v t => zE D [(b, .inr (9, [.ref q1, .ref q2, .ref q3, .int 1, .int v, .int 0]))] [] (va_A [(b, .inr (9, [.ref q1, .ref q2, .ref q3, .int 1, .int 0, .int 0])), (q1, .inl (cI, 1, .inl f)), (q2, .inl (cI, 1, .inl (fun _ => 0))), (q3, .inl (cI, 1, .inl (fun _ => 0)))] sz) t) (va_A [(b, .inr (9, [.ref q1, .ref q2, .ref q3, .int 1, .int 0, .int 0])), (q1, .inl (cI, 1, .inl f)), (q2, .inl (cI, 1, .inl (fun _ => 0))), (q3, .inl (cI, 1, .inl (fun _ => 0)))] sz)) 0 0 (va_A [(b, .inr (9, [.ref q1, .ref q2, .ref q3, .int 1, .int 0, .int 0])), (q1, .inl (cI, 1, .inl f)), (q2, .inl (cI, 1, .inl (fun _ => 0))), (q3, .inl (cI, 1, .inl (fun _ => 0)))] sz) := by
  refine Met.ofW (cc := cX9_settle) (maxL := 4) (ret := none) (by decide) rfl ?_
  intro p e s m args below meth c s₁ B hml hv
  obtain ⟨rfl, hsz, hP, hK, hD0⟩ := hv
  have hx := B.exec
  have hb := B.bytes
  have hr := B.returns
  have hts := atoms_spec (ws := (.code yX9_settle cX9_settle 4 none :: zT)) B.pre
  have ht : ∀ w ∈ zT, w.before _ s = true := fun w h => hts w (List.mem_cons_of_mem _ h)
  have hown : s.vm.findClass RX9 = some m.cls := findClass_of_methodNamed B.named
  have hlocks := B.notSynchronized
  subst hsz
  have hD := hD0.self (sz := s.heap.size)
  generalize hAe : va_A [(b, .inr (9, [.ref q1, .ref q2, .ref q3, .int 1, .int 0, .int 0])), (q1, .inl (cI, 1, .inl f)), (q2, .inl (cI, 1, .inl (fun _ => 0))), (q3, .inl (cI, 1, .inl (fun _ => 0)))] s.heap.size = A at hD ⊢
  have hA : ∀ q : Nat, s.heap.size ≤ q → A q := fun q h => by rw [← hAe]; exact Or.inr h
  have hS : va_S A s.heap s.heap [] := va_S.rf
  have hP : va_P D vwCl [(b, .inr (9, [.ref q1, .ref q2, .ref q3, .int 1, .int 0, .int 0])), (q1, .inl (cI, 1, .inl f)), (q2, .inl (cI, 1, .inl (fun _ => 0))), (q3, .inl (cI, 1, .inl (fun _ => 0)))] s.heap := hP
  have hl := lv_entry ([.ref b, .ref sg]) (n := 4) (Nat.le_of_ble_eq_true rfl)
  rw [lg_entry_eq]
  generalize (lg_sl ([.ref b, .ref sg]) ++ List.replicate (4 - (lg_sl ([.ref b, .ref sg])).length) Slot.unset).toArray = ls at hl ⊢
  have hl : lv_has ls 4 [(0, .ref b), (1, .ref sg)] := hl
  skip
  refine lv_aload_n hx hb dX9_settle_0 rfl (lv_at hl 0 rfl) ?_
  have hPc := hP.sub (ws' := [(b, .inr (9, [.ref q1, .ref q2, .ref q3, .int 1, .int 0, .int 0])), (q1, .inl (cI, 1, .inl f)), (q2, .inl (cI, 1, .inl (fun _ => 0)))]) [0, 1, 2] rfl
  have hDc := hD.sub (ws' := [(b, .inr (9, [.ref q1, .ref q2, .ref q3, .int 1, .int 0, .int 0])), (q1, .inl (cI, 1, .inl f)), (q2, .inl (cI, 1, .inl (fun _ => 0)))]) [0, 1, 2] (by decide) rfl
  have hKc := hK.sub (tys' := [(cI, .int)]) [0] rfl
  have hFc := va_free (wc := [(b, .inr (9, [.ref q1, .ref q2, .ref q3, .int 1, .int 0, .int 0])), (q1, .inl (cI, 1, .inl f)), (q2, .inl (cI, 1, .inl (fun _ => 0)))]) hD hS hA [0, 1, 2] rfl
  refine va_callv (va_runV (As := []) (rest := []) ⟨hx, hb, hml, hown, ht⟩ (k_X9_findEnds l _ D b q1 q2 q3 cI f x hx4 hf) (cwV 0 ht (zG_V zw_516 zw_517 zw_518 zw_258 zw_519) rfl rfl rfl (by decide +kernel) ⟨Nat.le_of_ble_eq_true rfl, Nat.le_of_ble_eq_true rfl⟩) (zM_V (va_recv hK hP (ci := 9) (q0 := 0) rfl rfl) hPc hKc hDc) rfl rfl hl.1 rfl (lv_room (Nat.le_of_ble_eq_true rfl)) dX9_settle_1 ⟨Nat.le_of_ble_eq_true rfl, Nat.le_of_ble_eq_true rfl⟩) hS (fun q _ h => hFc q h) hFc (fun u_1 t H1 locs ht0 hvm hw_1 hB hz1 hk1 hS => ?_)
  obtain ⟨hP1, hK1, hD1⟩ := hB
  rw [ht0] at hP1
  have hK1 := va_K.moved hvm.symm hK1
  obtain ⟨hP, hD⟩ := va_join (wr := [(q3, .inl (cI, 1, .inl (fun _ => 0)))]) (w1 := [(b, .inr (9, [.ref q1, .ref q2, .ref q3, .int 1, .int 0, .int 0])), (q1, .inl (cI, 1, .inl f))]) hP hD [0, 1, 2] [3] rfl rfl (by decide) (by decide) hk1 hFc hP1 hD1
  generalize H1 = H at hP hS ⊢
  have hP : va_P D vwCl [(q3, .inl (cI, 1, .inl (fun _ => 0))), (b, .inr (9, [.ref q1, .ref q2, .ref q3, .int 1, .int 0, .int 0])), (q1, .inl (cI, 1, .inl f))] H := hP
  have hD : va_D A [(q3, .inl (cI, 1, .inl (fun _ => 0))), (b, .inr (9, [.ref q1, .ref q2, .ref q3, .int 1, .int 0, .int 0])), (q1, .inl (cI, 1, .inl f))] := hD
  refine lv_aload_n hx hb dX9_settle_4 rfl (lv_at hl 0 rfl) ?_
  refine lv_iconst (v := 0) hx hb dX9_settle_5 (by decide) ?_
  refine va_put (D := D) (ci := 9) (v := .int 0) (ty := .int) (C := RX9) (T := TX9) (N := 6) hx hb ht zinX9 tyX9 tyX9_ok nmX9 hown hK hP hD hS 1 rfl rfl 4 (by decide) (ht _ zw_520) (fun _ h9 => h9) rfl (by decide +kernel) rfl rfl (Nat.le_of_ble_eq_true rfl) dX9_settle_6 (fun H locs hP hD hS => ?_)
  have hP : va_P D vwCl [(q3, .inl (cI, 1, .inl (fun _ => 0))), (b, .inr (9, [.ref q1, .ref q2, .ref q3, .int 1, .int 0, .int 0])), (q1, .inl (cI, 1, .inl f))] H := hP
  have hD : va_D A [(q3, .inl (cI, 1, .inl (fun _ => 0))), (b, .inr (9, [.ref q1, .ref q2, .ref q3, .int 1, .int 0, .int 0])), (q1, .inl (cI, 1, .inl f))] := hD
  refine lv_aload_n hx hb dX9_settle_9 rfl (lv_at hl 0 rfl) ?_
  refine lv_iconst (v := 0) hx hb dX9_settle_10 (by decide) ?_
  refine va_put (D := D) (ci := 9) (v := .int 0) (ty := .int) (C := RX9) (T := TX9) (N := 6) hx hb ht zinX9 tyX9 tyX9_ok nmX9 hown hK hP hD hS 1 rfl rfl 5 (by decide) (ht _ zw_521) (fun _ h9 => h9) rfl (by decide +kernel) rfl rfl (Nat.le_of_ble_eq_true rfl) dX9_settle_11 (fun H locs hP hD hS => ?_)
  have hP : va_P D vwCl [(q3, .inl (cI, 1, .inl (fun _ => 0))), (b, .inr (9, [.ref q1, .ref q2, .ref q3, .int 1, .int 0, .int 0])), (q1, .inl (cI, 1, .inl f))] H := hP
  have hD : va_D A [(q3, .inl (cI, 1, .inl (fun _ => 0))), (b, .inr (9, [.ref q1, .ref q2, .ref q3, .int 1, .int 0, .int 0])), (q1, .inl (cI, 1, .inl f))] := hD
  refine lv_aload_n hx hb dX9_settle_14 rfl (lv_at hl 0 rfl) ?_
  refine va_get (D := D) (ci := 9) (v := .ref q3) (C := RX9) (T := TX9) (N := 6) hx hb ht zinX9 hown hK hP 1 rfl rfl 2 (by decide) (ht _ zw_229) (fun _ h9 => h9) rfl dX9_settle_15 ?_
  refine lv_iconst (v := 0) hx hb dX9_settle_18 (by decide) ?_
  refine lv_iconst (v := 0) hx hb dX9_settle_19 (by decide) ?_
  refine va_iast hx hb hK hP hD hS 0 0 rfl rfl (vp_in_iff.mpr (by decide)) dX9_settle_20 (fun H locs hP hD hS => ?_)
  have hP : va_P D vwCl [(q3, .inl (cI, 1, .inl (upd (fun _ => 0) 0 0))), (b, .inr (9, [.ref q1, .ref q2, .ref q3, .int 1, .int 0, .int 0])), (q1, .inl (cI, 1, .inl f))] H := hP
  have hD : va_D A [(q3, .inl (cI, 1, .inl (upd (fun _ => 0) 0 0))), (b, .inr (9, [.ref q1, .ref q2, .ref q3, .int 1, .int 0, .int 0])), (q1, .inl (cI, 1, .inl f))] := hD
  refine lv_iconst (v := 0) hx hb dX9_settle_21 (by decide) ?_
  refine lv_istore_n (lv' := [(2, .int 0), (0, .ref b), (1, .ref sg)]) hx hb dX9_settle_22 rfl hl (by decide) rfl (fun ls hl => ?_)
  refine lv_iload_n hx hb dX9_settle_23 rfl (lv_at hl 0 rfl) ?_
  refine lv_aload_n hx hb dX9_settle_24 rfl (lv_at hl 1 rfl) ?_
  refine va_get (D := D) (ci := 9) (v := .int 1) (C := RX9) (T := TX9) (N := 6) hx hb ht zinX9 hown hK hP 1 rfl rfl 3 (by decide) (ht _ zw_512) (fun _ h9 => h9) rfl dX9_settle_25 ?_
  refine lv_icmp_ge (tgt := 92) hx hb dX9_settle_28 (by decide) (fun c_2 => ?_) (fun c_2 => ?_)
  · skip
    exact absurd c_2 (by decide)
  · skip
    refine lv_aload_n hx hb dX9_settle_31 rfl (lv_at hl 1 rfl) ?_
    refine va_get (D := D) (ci := 9) (v := .ref q1) (C := RX9) (T := TX9) (N := 6) hx hb ht zinX9 hown hK hP 1 rfl rfl 0 (by decide) (ht _ zw_227) (fun _ h9 => h9) rfl dX9_settle_32 ?_
    refine lv_iload_n hx hb dX9_settle_35 rfl (lv_at hl 0 rfl) ?_
    refine va_iald hx hb hK hP 2 0 rfl rfl (vp_in_iff.mpr (by decide)) dX9_settle_36 ?_
    refine W.eq (g2 := F0 m 37 ls (.int x :: [])) (by show F0 m _ ls (.int (f 0) :: _) = _; rw [hf]) ?_
    refine vp_callSi (va_runS (As := [.int x]) (rest := []) ⟨hx, hb, hml, hown, ht⟩ (k_X9_signOf l x hx4) (va_cwS 1 ht (zG_S zw_522 zw_523 zw_258 zw_524) rfl rfl rfl (by decide +kernel) ⟨Nat.le_of_ble_eq_true rfl, Nat.le_of_ble_eq_true rfl⟩) zN_S rfl rfl hl.1 rfl (lv_room (Nat.le_of_ble_eq_true rfl)) dX9_settle_37 ⟨Nat.le_of_ble_eq_true rfl, Nat.le_of_ble_eq_true rfl⟩).run (fun r_4 hw_4 => ?_)
    obtain rfl : r_4 = (-1) := hw_4
    refine lv_istore_n (lv' := [(3, .int (-1)), (2, .int 0), (0, .ref b), (1, .ref sg)]) hx hb dX9_settle_40 rfl hl (by decide) rfl (fun ls hl => ?_)
    refine lv_iload_n hx hb dX9_settle_41 rfl (lv_at hl 0 rfl) ?_
    refine lv_iconst (v := (-1)) hx hb dX9_settle_42 (by decide) ?_
    refine lv_icmp_ne (tgt := 66) hx hb dX9_settle_43 (by decide) (fun c_5 => ?_) (fun c_5 => ?_)
    · skip
      exact absurd c_5 (by decide)
    · skip
      refine lv_aload_n hx hb dX9_settle_46 rfl (lv_at hl 2 rfl) ?_
      refine lv_dup hx hb dX9_settle_47 rfl ?_
      refine va_get (D := D) (ci := 9) (v := .int 0) (C := RX9) (T := TX9) (N := 6) hx hb ht zinX9 hown hK hP 1 rfl rfl 4 (by decide) (ht _ zw_520) (fun _ h9 => h9) rfl dX9_settle_48 ?_
      refine lv_iconst (v := 1) hx hb dX9_settle_51 (by decide) ?_
      refine lv_aload_n hx hb dX9_settle_52 rfl (lv_at hl 2 rfl) ?_
      refine va_get (D := D) (ci := 9) (v := .ref q1) (C := RX9) (T := TX9) (N := 6) hx hb ht zinX9 hown hK hP 1 rfl rfl 0 (by decide) (ht _ zw_227) (fun _ h9 => h9) rfl dX9_settle_53 ?_
      refine lv_iload_n hx hb dX9_settle_56 rfl (lv_at hl 1 rfl) ?_
      refine va_iald hx hb hK hP 2 0 rfl rfl (vp_in_iff.mpr (by decide)) dX9_settle_57 ?_
      refine W.eq (g2 := F0 m 58 ls (.int x :: .int 1 :: .int 0 :: .ref b :: [])) (by show F0 m _ ls (.int (f 0) :: _) = _; rw [hf]) ?_
      refine lv_ishl hx hb dX9_settle_58 ?_
      refine lv_topi (fun x_7 e_7 => ?_)
      refine lv_ior hx hb dX9_settle_59 ?_
      refine lv_topi (fun x_8 e_8 => ?_)
      refine va_put (D := D) (ci := 9) (v := .int x_8) (ty := .int) (C := RX9) (T := TX9) (N := 6) hx hb ht zinX9 tyX9 tyX9_ok nmX9 hown hK hP hD hS 1 rfl rfl 4 (by decide) (ht _ zw_520) (fun _ h9 => h9) rfl (by decide +kernel) rfl rfl (Nat.le_of_ble_eq_true rfl) dX9_settle_60 (fun H locs hP hD hS => ?_)
      have hP : va_P D vwCl [(q3, .inl (cI, 1, .inl (upd (fun _ => 0) 0 0))), (b, .inr (9, [.ref q1, .ref q2, .ref q3, .int 1, .int x_8, .int 0])), (q1, .inl (cI, 1, .inl f))] H := hP
      have hD : va_D A [(q3, .inl (cI, 1, .inl (upd (fun _ => 0) 0 0))), (b, .inr (9, [.ref q1, .ref q2, .ref q3, .int 1, .int x_8, .int 0])), (q1, .inl (cI, 1, .inl f))] := hD
      refine lv_goto (tgt := 86) hx hb dX9_settle_63 (by decide) ?_
      refine lv_iinc (v := 1) (lv' := [(2, .int 1), (3, .int (-1)), (0, .ref b), (1, .ref sg)]) hx hb dX9_settle_86 hl (k := 1) rfl (by decide) (by decide) rfl (fun ls hl => ?_)
      refine lv_goto (tgt := 23) hx hb dX9_settle_89 (by decide) ?_
      refine lv_iload_n hx hb dX9_settle_23 rfl (lv_at hl 0 rfl) ?_
      refine lv_aload_n hx hb dX9_settle_24 rfl (lv_at hl 2 rfl) ?_
      refine va_get (D := D) (ci := 9) (v := .int 1) (C := RX9) (T := TX9) (N := 6) hx hb ht zinX9 hown hK hP 1 rfl rfl 3 (by decide) (ht _ zw_512) (fun _ h9 => h9) rfl dX9_settle_25 ?_
      refine lv_icmp_ge (tgt := 92) hx hb dX9_settle_28 (by decide) (fun c_10 => ?_) (fun c_10 => ?_)
      · skip
        have hP9 := hP.sub (ws' := [(b, .inr (9, [.ref q1, .ref q2, .ref q3, .int 1, .int x_8, .int 0]))]) [1] rfl
        have hD9 := hD.sub (ws' := [(b, .inr (9, [.ref q1, .ref q2, .ref q3, .int 1, .int x_8, .int 0]))]) [1] (by decide) rfl
        have hK9 := hK.sub (tys' := []) [] rfl
        refine W.widen (k := 0) (n := 0) (Nat.le_of_ble_eq_true rfl) (Nat.le_of_ble_eq_true rfl) ?_
        exact W.vret hx hb hr (fun t ht0 hW => ⟨⟨x_8, rfl, trivial, (zE_of hP9 hK9 hD9 ht0 hW)⟩, hS.F ht0⟩) hS.2.2 dX9_settle_92
      · skip
        exact absurd c_10 (by decide)
set_option maxHeartbeats 4000000 in
set_option maxRecDepth 100000 in
theorem k_X9_load (l : Launch) (sz : Nat) (D : va_G) (b q1 q2 q3 a : Nat) (cI : ClassId) (f : Nat → Int32) : Met l yX9_load (.code yX9_load cX9_load 4 none :: zT) ({ frames := 1, cells := 0, slots := 0, locals := 64 }) (va_Pc [.ref b, .ref a, .int 0, .int 1] (zM D [(b, .inr (9, [.ref q1, .ref q2, .ref q3, .int 0, .int 0, .int 0])), (q1, .inl (cI, 1, .inl (fun _ => 0))), (a, .inl (cI, 40, .inl f))] [(cI, .int)] sz)) (va_Qv (fun (_ : Unit) => True) (fun _ t => zE D [(b, .inr (9, [.ref q1, .ref q2, .ref q3, .int 1, .int 0, .int 0])), (q1, .inl (cI, 1, .inl (va_cpy f (fun _ => 0) 0 0 1))), (a, .inl (cI, 40, .inl f))] [] (va_A [(b, .inr (9, [.ref q1, .ref q2, .ref q3, .int 0, .int 0, .int 0])), (q1, .inl (cI, 1, .inl (fun _ => 0))), (a, .inl (cI, 40, .inl f))] sz) t) (va_A [(b, .inr (9, [.ref q1, .ref q2, .ref q3, .int 0, .int 0, .int 0])), (q1, .inl (cI, 1, .inl (fun _ => 0))), (a, .inl (cI, 40, .inl f))] sz)) 0 0 (va_A [(b, .inr (9, [.ref q1, .ref q2, .ref q3, .int 0, .int 0, .int 0])), (q1, .inl (cI, 1, .inl (fun _ => 0))), (a, .inl (cI, 40, .inl f))] sz) := by
  refine Met.ofW (cc := cX9_load) (maxL := 4) (ret := none) (by decide) rfl ?_
  intro p e s m args below meth c s₁ B hml hv
  obtain ⟨rfl, hsz, hP, hK, hD0⟩ := hv
  have hx := B.exec
  have hb := B.bytes
  have hr := B.returns
  have hts := atoms_spec (ws := (.code yX9_load cX9_load 4 none :: zT)) B.pre
  have ht : ∀ w ∈ zT, w.before _ s = true := fun w h => hts w (List.mem_cons_of_mem _ h)
  have hown : s.vm.findClass RX9 = some m.cls := findClass_of_methodNamed B.named
  have hlocks := B.notSynchronized
  subst hsz
  have hD := hD0.self (sz := s.heap.size)
  generalize hAe : va_A [(b, .inr (9, [.ref q1, .ref q2, .ref q3, .int 0, .int 0, .int 0])), (q1, .inl (cI, 1, .inl (fun _ => 0))), (a, .inl (cI, 40, .inl f))] s.heap.size = A at hD ⊢
  have hA : ∀ q : Nat, s.heap.size ≤ q → A q := fun q h => by rw [← hAe]; exact Or.inr h
  have hS : va_S A s.heap s.heap [] := va_S.rf
  have hP : va_P D vwCl [(b, .inr (9, [.ref q1, .ref q2, .ref q3, .int 0, .int 0, .int 0])), (q1, .inl (cI, 1, .inl (fun _ => 0))), (a, .inl (cI, 40, .inl f))] s.heap := hP
  have hl := lv_entry ([.ref b, .ref a, .int 0, .int 1]) (n := 4) (Nat.le_of_ble_eq_true rfl)
  rw [lg_entry_eq]
  generalize (lg_sl ([.ref b, .ref a, .int 0, .int 1]) ++ List.replicate (4 - (lg_sl ([.ref b, .ref a, .int 0, .int 1])).length) Slot.unset).toArray = ls at hl ⊢
  have hl : lv_has ls 4 [(0, .ref b), (1, .ref a), (2, .int 0), (3, .int 1)] := hl
  skip
  refine lv_aload_n hx hb dX9_load_0 rfl (lv_at hl 0 rfl) ?_
  refine lv_iload_n hx hb dX9_load_1 rfl (lv_at hl 3 rfl) ?_
  refine lv_aload_n hx hb dX9_load_2 rfl (lv_at hl 0 rfl) ?_
  refine va_get (D := D) (ci := 9) (v := .ref q1) (C := RX9) (T := TX9) (N := 6) hx hb ht zinX9 hown hK hP 0 rfl rfl 0 (by decide) (ht _ zw_227) (fun _ h9 => h9) rfl dX9_load_3 ?_
  refine va_alen (v := 1) hx hb hK hP 1 0 rfl rfl rfl dX9_load_6 ?_
  refine va_mmin hx hb (hml.trans hl.1.symm) hown (ht _ zw_525) (ht _ zw_476) (ht _ zw_477) (ht _ zw_478) (Nat.le_of_ble_eq_true rfl) (Nat.le_of_ble_eq_true rfl) (Nat.le_of_ble_eq_true rfl) (Nat.le_of_ble_eq_true rfl) dX9_load_7 ?_
  refine lv_topi (fun x_1 e_1 => ?_)
  obtain rfl : x_1 = 1 := e_1.trans (by decide)
  refine va_put (D := D) (ci := 9) (v := .int 1) (ty := .int) (C := RX9) (T := TX9) (N := 6) hx hb ht zinX9 tyX9 tyX9_ok nmX9 hown hK hP hD hS 0 rfl rfl 3 (by decide) (ht _ zw_512) (fun _ h9 => h9) rfl (by decide +kernel) rfl rfl (Nat.le_of_ble_eq_true rfl) dX9_load_10 (fun H locs hP hD hS => ?_)
  have hP : va_P D vwCl [(b, .inr (9, [.ref q1, .ref q2, .ref q3, .int 1, .int 0, .int 0])), (q1, .inl (cI, 1, .inl (fun _ => 0))), (a, .inl (cI, 40, .inl f))] H := hP
  have hD : va_D A [(b, .inr (9, [.ref q1, .ref q2, .ref q3, .int 1, .int 0, .int 0])), (q1, .inl (cI, 1, .inl (fun _ => 0))), (a, .inl (cI, 40, .inl f))] := hD
  refine lv_aload_n hx hb dX9_load_13 rfl (lv_at hl 1 rfl) ?_
  refine lv_iload_n hx hb dX9_load_14 rfl (lv_at hl 2 rfl) ?_
  refine lv_aload_n hx hb dX9_load_15 rfl (lv_at hl 0 rfl) ?_
  refine va_get (D := D) (ci := 9) (v := .ref q1) (C := RX9) (T := TX9) (N := 6) hx hb ht zinX9 hown hK hP 0 rfl rfl 0 (by decide) (ht _ zw_227) (fun _ h9 => h9) rfl dX9_load_16 ?_
  refine lv_iconst (v := 0) hx hb dX9_load_19 (by decide) ?_
  refine lv_aload_n hx hb dX9_load_20 rfl (lv_at hl 0 rfl) ?_
  refine va_get (D := D) (ci := 9) (v := .int 1) (C := RX9) (T := TX9) (N := 6) hx hb ht zinX9 hown hK hP 0 rfl rfl 3 (by decide) (ht _ zw_512) (fun _ h9 => h9) rfl dX9_load_21 ?_
  refine va_copyi hx hb (hml.trans hl.1.symm) hown (ht _ zw_526) (ht _ zw_96) (ht _ zw_97) (ht _ zw_98) hK hP hD hS 2 1 0 0 rfl rfl rfl rfl rfl (by decide) (by decide) (by decide) (Nat.le_of_ble_eq_true rfl) (Nat.le_of_ble_eq_true rfl) (fun _ _ => rfl) (Nat.le_of_ble_eq_true rfl) (Nat.le_of_ble_eq_true rfl) dX9_load_24 (fun H locs hP hD hS => ?_)
  have hP : va_P D vwCl [(b, .inr (9, [.ref q1, .ref q2, .ref q3, .int 1, .int 0, .int 0])), (q1, .inl (cI, 1, .inl (va_cpy f (fun _ => 0) 0 0 1))), (a, .inl (cI, 40, .inl f))] H := hP
  have hD : va_D A [(b, .inr (9, [.ref q1, .ref q2, .ref q3, .int 1, .int 0, .int 0])), (q1, .inl (cI, 1, .inl (va_cpy f (fun _ => 0) 0 0 1))), (a, .inl (cI, 40, .inl f))] := hD
  have hP9 := hP.sub (ws' := [(b, .inr (9, [.ref q1, .ref q2, .ref q3, .int 1, .int 0, .int 0])), (q1, .inl (cI, 1, .inl (va_cpy f (fun _ => 0) 0 0 1))), (a, .inl (cI, 40, .inl f))]) [0, 1, 2] rfl
  have hD9 := hD.sub (ws' := [(b, .inr (9, [.ref q1, .ref q2, .ref q3, .int 1, .int 0, .int 0])), (q1, .inl (cI, 1, .inl (va_cpy f (fun _ => 0) 0 0 1))), (a, .inl (cI, 40, .inl f))]) [0, 1, 2] (by decide) rfl
  have hK9 := hK.sub (tys' := []) [] rfl
  refine W.widen (k := 0) (n := 0) (Nat.le_of_ble_eq_true rfl) (Nat.le_of_ble_eq_true rfl) ?_
  exact W.vret hx hb hr (fun t ht0 hW => ⟨⟨(), rfl, trivial, (zE_of hP9 hK9 hD9 ht0 hW)⟩, hS.F ht0⟩) hS.2.2 dX9_load_27
set_option maxHeartbeats 4000000 in
set_option maxRecDepth 100000 in
theorem k_X9_init_ (l : Launch) (sz : Nat) (D : va_G) (b a : Nat) (cI : ClassId) (f : Nat → Int32) (x : Int32) (hx4 : 0 ≤ x.toInt ∧ x.toInt ≤ 3) (sg : Nat) : Met l yX9_init_ (.code yX9_init_ cX9_init_ 5 none :: zT) ({ frames := 3, cells := 3, slots := 3, locals := 87 }) (va_Pc [.ref b, .ref a, .int 0, .int 1, .ref sg] (zX zTab D [(b, .inr (9, [.null, .null, .null, .int 0, .int 0, .int 0])), (a, .inl (cI, 40, .inl (upd f 0 x)))] [(cI, .int)] sz)) (va_Qv (fun (_ : Int32) => True) (fun v t => ∃ q1 q2 q3 : Nat, zE D [(b, .inr (9, [.ref q1, .ref q2, .ref q3, .int 1, .int v, .int 0])), (a, .inl (cI, 40, .inl (upd f 0 x)))] [] (va_A [(b, .inr (9, [.null, .null, .null, .int 0, .int 0, .int 0])), (a, .inl (cI, 40, .inl (upd f 0 x)))] sz) t) (va_A [(b, .inr (9, [.null, .null, .null, .int 0, .int 0, .int 0])), (a, .inl (cI, 40, .inl (upd f 0 x)))] sz)) 3 3 (va_A [(b, .inr (9, [.null, .null, .null, .int 0, .int 0, .int 0])), (a, .inl (cI, 40, .inl (upd f 0 x)))] sz) := by
  refine Met.ofW (cc := cX9_init_) (maxL := 5) (ret := none) (by decide) rfl ?_
  intro p e s m args below meth c s₁ B hml hv
  obtain ⟨rfl, hX, hsz, hP, hK, hD0⟩ := hv
  have hx := B.exec
  have hb := B.bytes
  have hr := B.returns
  have hts := atoms_spec (ws := (.code yX9_init_ cX9_init_ 5 none :: zT)) B.pre
  have ht : ∀ w ∈ zT, w.before _ s = true := fun w h => hts w (List.mem_cons_of_mem _ h)
  have hown : s.vm.findClass RX9 = some m.cls := findClass_of_methodNamed B.named
  have hlocks := B.notSynchronized
  have hin : meth.name = "<init>" := (name_of_methodNamed B.named B.method).1
  subst hsz
  have hD := hD0.self (sz := s.heap.size)
  generalize hAe : va_A [(b, .inr (9, [.null, .null, .null, .int 0, .int 0, .int 0])), (a, .inl (cI, 40, .inl (upd f 0 x)))] s.heap.size = A at hD ⊢
  have hA : ∀ q : Nat, s.heap.size ≤ q → A q := fun q h => by rw [← hAe]; exact Or.inr h
  have hS : va_S A s.heap s.heap [] := va_S.rf
  have hP : va_P D vwCl [(b, .inr (9, [.null, .null, .null, .int 0, .int 0, .int 0])), (a, .inl (cI, 40, .inl (upd f 0 x)))] s.heap := hP
  have hl := lv_entry ([.ref b, .ref a, .int 0, .int 1, .ref sg]) (n := 5) (Nat.le_of_ble_eq_true rfl)
  rw [lg_entry_eq]
  generalize (lg_sl ([.ref b, .ref a, .int 0, .int 1, .ref sg]) ++ List.replicate (5 - (lg_sl ([.ref b, .ref a, .int 0, .int 1, .ref sg])).length) Slot.unset).toArray = ls at hl ⊢
  have hl : lv_has ls 5 [(0, .ref b), (1, .ref a), (2, .int 0), (3, .int 1), (4, .ref sg)] := hl
  skip
  refine lv_aload_n hx hb dX9_init__0 rfl (lv_at hl 0 rfl) ?_
  refine lv_iload_n hx hb dX9_init__1 rfl (lv_at hl 3 rfl) ?_
  have hPc := hP.sub (ws' := [(b, .inr (9, [.null, .null, .null, .int 0, .int 0, .int 0]))]) [0] rfl
  have hDc := hD.sub (ws' := [(b, .inr (9, [.null, .null, .null, .int 0, .int 0, .int 0]))]) [0] (by decide) rfl
  have hKc := hK.sub (tys' := []) [] rfl
  have hFc := va_free (wc := [(b, .inr (9, [.null, .null, .null, .int 0, .int 0, .int 0]))]) hD hS hA [0] rfl
  refine va_callv (va_runI (As := [.int 1]) (rest := []) ⟨hx, hb, hml, hown, ht⟩ (k_X9_init_1 l _ D b) (cwI 1 ht (zG zw_259) rfl rfl rfl (ht _ zw_258) (ht _ zw_527) (ht _ zw_261) rfl (by decide +kernel) ⟨Nat.le_of_ble_eq_true rfl, Nat.le_of_ble_eq_true rfl⟩) (zXw_I (fun _ _ => zTab.warm) hX hPc hKc hDc) rfl rfl hl.1 rfl (lv_room (Nat.le_of_ble_eq_true rfl)) dX9_init__2 ⟨Nat.le_of_ble_eq_true rfl, Nat.le_of_ble_eq_true rfl⟩) hS (fun q _ h => hFc q h) hFc (fun u_1 t H1 locs ht0 hvm hw_1 hB hz1 hk1 hS => ?_)
  obtain ⟨q1_1, q2_1, q3_1, cI_1, hB⟩ := hB
  obtain ⟨hP1, hK1, hD1⟩ := hB
  rw [ht0] at hP1
  have hK1 := va_K.moved hvm.symm hK1
  obtain ⟨hP, hD⟩ := va_join (wr := [(a, .inl (cI, 40, .inl (upd f 0 x)))]) (w1 := [(b, .inr (9, [.ref q1_1, .ref q2_1, .ref q3_1, .int 0, .int 0, .int 0])), (q1_1, .inl (cI_1, 1, .inl (fun _ => 0))), (q2_1, .inl (cI_1, 1, .inl (fun _ => 0))), (q3_1, .inl (cI_1, 1, .inl (fun _ => 0)))]) hP hD [0] [1] rfl rfl (by decide) (by decide) hk1 hFc hP1 hD1
  have hK := hK.app hK1
  generalize H1 = H at hP hS ⊢
  have hP : va_P D vwCl [(a, .inl (cI, 40, .inl (upd f 0 x))), (b, .inr (9, [.ref q1_1, .ref q2_1, .ref q3_1, .int 0, .int 0, .int 0])), (q1_1, .inl (cI_1, 1, .inl (fun _ => 0))), (q2_1, .inl (cI_1, 1, .inl (fun _ => 0))), (q3_1, .inl (cI_1, 1, .inl (fun _ => 0)))] H := hP
  have hD : va_D A [(a, .inl (cI, 40, .inl (upd f 0 x))), (b, .inr (9, [.ref q1_1, .ref q2_1, .ref q3_1, .int 0, .int 0, .int 0])), (q1_1, .inl (cI_1, 1, .inl (fun _ => 0))), (q2_1, .inl (cI_1, 1, .inl (fun _ => 0))), (q3_1, .inl (cI_1, 1, .inl (fun _ => 0)))] := hD
  have hK : va_K D vwCl [(cI, .int), (cI_1, .int)] s := hK
  have hcc : cI = cI_1 := za_same hK 0 1 rfl rfl
  subst hcc
  have hK := hK.sub (tys' := [(cI, .int)]) [0] rfl
  refine W.widen (k := 3) (n := 3) (Nat.le_of_ble_eq_true rfl) (Nat.le_of_ble_eq_true rfl) ?_
  refine lv_aload_n hx hb dX9_init__5 rfl (lv_at hl 0 rfl) ?_
  refine lv_aload_n hx hb dX9_init__6 rfl (lv_at hl 1 rfl) ?_
  refine lv_iload_n hx hb dX9_init__7 rfl (lv_at hl 2 rfl) ?_
  refine lv_iload_n hx hb dX9_init__8 rfl (lv_at hl 3 rfl) ?_
  have hPc := hP.sub (ws' := [(b, .inr (9, [.ref q1_1, .ref q2_1, .ref q3_1, .int 0, .int 0, .int 0])), (q1_1, .inl (cI, 1, .inl (fun _ => 0))), (a, .inl (cI, 40, .inl (upd f 0 x)))]) [1, 2, 0] rfl
  have hDc := hD.sub (ws' := [(b, .inr (9, [.ref q1_1, .ref q2_1, .ref q3_1, .int 0, .int 0, .int 0])), (q1_1, .inl (cI, 1, .inl (fun _ => 0))), (a, .inl (cI, 40, .inl (upd f 0 x)))]) [1, 2, 0] (by decide) rfl
  have hKc := hK.sub (tys' := [(cI, .int)]) [0] rfl
  have hFc := va_free (wc := [(b, .inr (9, [.ref q1_1, .ref q2_1, .ref q3_1, .int 0, .int 0, .int 0])), (q1_1, .inl (cI, 1, .inl (fun _ => 0))), (a, .inl (cI, 40, .inl (upd f 0 x)))]) hD hS hA [1, 2, 0] rfl
  refine va_callv (va_runV (As := [.ref a, .int 0, .int 1]) (rest := []) ⟨hx, hb, hml, hown, ht⟩ (k_X9_load l _ D b q1_1 q2_1 q3_1 a cI (upd f 0 x)) (cwV 3 ht (zG_V zw_528 zw_529 zw_530 zw_258 zw_531) rfl rfl rfl (by decide +kernel) ⟨Nat.le_of_ble_eq_true rfl, Nat.le_of_ble_eq_true rfl⟩) (zM_V (va_recv hK hP (ci := 9) (q0 := 1) rfl rfl) hPc hKc hDc) rfl rfl hl.1 rfl (lv_room (Nat.le_of_ble_eq_true rfl)) dX9_init__9 ⟨Nat.le_of_ble_eq_true rfl, Nat.le_of_ble_eq_true rfl⟩) hS (fun q _ h => hFc q h) hFc (fun u_2 t H1 locs ht0 hvm hw_2 hB hz1 hk1 hS => ?_)
  obtain ⟨hP1, hK1, hD1⟩ := hB
  rw [ht0] at hP1
  have hK1 := va_K.moved hvm.symm hK1
  obtain ⟨hP, hD⟩ := va_join (wr := [(q2_1, .inl (cI, 1, .inl (fun _ => 0))), (q3_1, .inl (cI, 1, .inl (fun _ => 0)))]) (w1 := [(b, .inr (9, [.ref q1_1, .ref q2_1, .ref q3_1, .int 1, .int 0, .int 0])), (q1_1, .inl (cI, 1, .inl (va_cpy (upd f 0 x) (fun _ => 0) 0 0 1))), (a, .inl (cI, 40, .inl (upd f 0 x)))]) hP hD [1, 2, 0] [3, 4] rfl rfl (by decide) (by decide) hk1 hFc hP1 hD1
  generalize H1 = H at hP hS ⊢
  have hP : va_P D vwCl [(q2_1, .inl (cI, 1, .inl (fun _ => 0))), (q3_1, .inl (cI, 1, .inl (fun _ => 0))), (b, .inr (9, [.ref q1_1, .ref q2_1, .ref q3_1, .int 1, .int 0, .int 0])), (q1_1, .inl (cI, 1, .inl (va_cpy (upd f 0 x) (fun _ => 0) 0 0 1))), (a, .inl (cI, 40, .inl (upd f 0 x)))] H := hP
  have hD : va_D A [(q2_1, .inl (cI, 1, .inl (fun _ => 0))), (q3_1, .inl (cI, 1, .inl (fun _ => 0))), (b, .inr (9, [.ref q1_1, .ref q2_1, .ref q3_1, .int 1, .int 0, .int 0])), (q1_1, .inl (cI, 1, .inl (va_cpy (upd f 0 x) (fun _ => 0) 0 0 1))), (a, .inl (cI, 40, .inl (upd f 0 x)))] := hD
  refine lv_aload_n hx hb dX9_init__12 rfl (lv_at hl 0 rfl) ?_
  refine lv_aload hx hb dX9_init__13 (lv_at hl 4 rfl) ?_
  have hPc := hP.sub (ws' := [(b, .inr (9, [.ref q1_1, .ref q2_1, .ref q3_1, .int 1, .int 0, .int 0])), (q1_1, .inl (cI, 1, .inl (va_cpy (upd f 0 x) (fun _ => 0) 0 0 1))), (q2_1, .inl (cI, 1, .inl (fun _ => 0))), (q3_1, .inl (cI, 1, .inl (fun _ => 0)))]) [2, 3, 0, 1] rfl
  have hDc := hD.sub (ws' := [(b, .inr (9, [.ref q1_1, .ref q2_1, .ref q3_1, .int 1, .int 0, .int 0])), (q1_1, .inl (cI, 1, .inl (va_cpy (upd f 0 x) (fun _ => 0) 0 0 1))), (q2_1, .inl (cI, 1, .inl (fun _ => 0))), (q3_1, .inl (cI, 1, .inl (fun _ => 0)))]) [2, 3, 0, 1] (by decide) rfl
  have hKc := hK.sub (tys' := [(cI, .int)]) [0] rfl
  have hFc := va_free (wc := [(b, .inr (9, [.ref q1_1, .ref q2_1, .ref q3_1, .int 1, .int 0, .int 0])), (q1_1, .inl (cI, 1, .inl (va_cpy (upd f 0 x) (fun _ => 0) 0 0 1))), (q2_1, .inl (cI, 1, .inl (fun _ => 0))), (q3_1, .inl (cI, 1, .inl (fun _ => 0)))]) hD hS hA [2, 3, 0, 1] rfl
  refine va_callv (va_runV (As := [.ref sg]) (rest := []) ⟨hx, hb, hml, hown, ht⟩ (k_X9_settle l _ D b q1_1 q2_1 q3_1 cI (va_cpy (upd f 0 x) (fun _ => 0) 0 0 1) x hx4 rfl sg) (cwV 1 ht (zG_V zw_532 zw_533 zw_534 zw_258 zw_535) rfl rfl rfl (by decide +kernel) ⟨Nat.le_of_ble_eq_true rfl, Nat.le_of_ble_eq_true rfl⟩) (zM_V (va_recv hK hP (ci := 9) (q0 := 2) rfl rfl) hPc hKc hDc) rfl rfl hl.1 rfl (lv_room (Nat.le_of_ble_eq_true rfl)) dX9_init__15 ⟨Nat.le_of_ble_eq_true rfl, Nat.le_of_ble_eq_true rfl⟩) hS (fun q _ h => hFc q h) hFc (fun u_3 t H1 locs ht0 hvm hw_3 hB hz1 hk1 hS => ?_)
  obtain ⟨hP1, hK1, hD1⟩ := hB
  rw [ht0] at hP1
  have hK1 := va_K.moved hvm.symm hK1
  obtain ⟨hP, hD⟩ := va_join (wr := [(a, .inl (cI, 40, .inl (upd f 0 x)))]) (w1 := [(b, .inr (9, [.ref q1_1, .ref q2_1, .ref q3_1, .int 1, .int u_3, .int 0]))]) hP hD [2, 3, 0, 1] [4] rfl rfl (by decide) (by decide) hk1 hFc hP1 hD1
  generalize H1 = H at hP hS ⊢
  have hP : va_P D vwCl [(a, .inl (cI, 40, .inl (upd f 0 x))), (b, .inr (9, [.ref q1_1, .ref q2_1, .ref q3_1, .int 1, .int u_3, .int 0]))] H := hP
  have hD : va_D A [(a, .inl (cI, 40, .inl (upd f 0 x))), (b, .inr (9, [.ref q1_1, .ref q2_1, .ref q3_1, .int 1, .int u_3, .int 0]))] := hD
  have hP9 := hP.sub (ws' := [(b, .inr (9, [.ref q1_1, .ref q2_1, .ref q3_1, .int 1, .int u_3, .int 0])), (a, .inl (cI, 40, .inl (upd f 0 x)))]) [1, 0] rfl
  have hD9 := hD.sub (ws' := [(b, .inr (9, [.ref q1_1, .ref q2_1, .ref q3_1, .int 1, .int u_3, .int 0])), (a, .inl (cI, 40, .inl (upd f 0 x)))]) [1, 0] (by decide) rfl
  have hK9 := hK.sub (tys' := []) [] rfl
  refine W.widen (k := 3) (n := 3) (Nat.le_of_ble_eq_true rfl) (Nat.le_of_ble_eq_true rfl) ?_
  exact W.vret hx hb hr (fun t ht0 hW => ⟨⟨u_3, rfl, trivial, q1_1, q2_1, q3_1, zE_of hP9 hK9 hD9 ht0 hW⟩, hS.F ht0⟩) hS.2.2 dX9_init__18
set_option maxHeartbeats 4000000 in
set_option maxRecDepth 100000 in
theorem k_X8_countFilled (l : Launch) (D : va_G) (h cs : Nat → Nat) (q : Nat) (p0 : Int32) (hp : 0 ≤ p0.toInt ∧ p0.toInt < 10) : Met l yX8_countFilled (.code yX8_countFilled cX8_countFilled 3 (some .int) :: zT) ({ frames := 0, cells := 0, slots := 0, locals := 0 }) (va_Pc [.ref (h 1)] (zR D [((h 1), .inr (8, [.ref (h 2), .int 0, .ref (h 3), .ref (h 4), .int 0, .ref (h 5), .int 0, .ref (h 6), .int 0, .ref (h 7), .int 0])), ((h 3), .inl ((cs 9), 10, .inr (.inr (.inr (.inr (va_up (fun _ => none) p0.toNatClampNeg (some q)))))))] [((cs 9), .object RX9)])) (vp_Si (fun r => r = 1)) 0 0 (fun _ => False) := by
  refine Met.ofW (cc := cX8_countFilled) (maxL := 3) (ret := (some .int)) (by decide) rfl ?_
  intro p e s m args below meth c s₁ B hml hv
  obtain ⟨rfl, hP, hK⟩ := hv
  have hx := B.exec
  have hb := B.bytes
  have hr := B.returns
  have hts := atoms_spec (ws := (.code yX8_countFilled cX8_countFilled 3 (some .int) :: zT)) B.pre
  have ht : ∀ w ∈ zT, w.before _ s = true := fun w h => hts w (List.mem_cons_of_mem _ h)
  have hown : s.vm.findClass RX8 = some m.cls := findClass_of_methodNamed B.named
  have hlocks := B.notSynchronized
  have hl := lv_entry ([.ref (h 1)]) (n := 3) (Nat.le_of_ble_eq_true rfl)
  rw [lg_entry_eq]
  generalize (lg_sl ([.ref (h 1)]) ++ List.replicate (3 - (lg_sl ([.ref (h 1)])).length) Slot.unset).toArray = ls at hl ⊢
  have hl : lv_has ls 3 [(0, .ref (h 1))] := hl
  skip
  refine lv_iconst (v := 0) hx hb dX8_countFilled_0 (by decide) ?_
  refine lv_istore_n (lv' := [(1, .int 0), (0, .ref (h 1))]) hx hb dX8_countFilled_1 rfl hl (by decide) rfl (fun ls hl => ?_)
  refine lv_iconst (v := 0) hx hb dX8_countFilled_2 (by decide) ?_
  refine lv_istore_n (lv' := [(2, .int 0), (1, .int 0), (0, .ref (h 1))]) hx hb dX8_countFilled_3 rfl hl (by decide) rfl (fun ls hl => ?_)
  have hloop_1 : ∀ (n_1 : Nat) (x1 : Int32) (x2 : Int32), 0 ≤ x2.toInt → x2.toInt ≤ 10 → 10 - x2.toInt < n_1 → ((x2.toInt ≤ p0.toInt → x1 = 0) ∧ (p0.toInt < x2.toInt → x1 = 1)) → ∀ (ls : Array Slot), lv_has ls 3 [(1, .int x1), (2, .int x2), (0, .ref (h 1))] → W p l e (headSpec (.code yX8_countFilled cX8_countFilled 3 (some .int) :: zT) ({ frames := 0, cells := 0, slots := 0, locals := 0 })).room s m (([.ref (h 1)] : List Value)).toArray below meth c s.heap [] 0 0 (MQ below (vp_Si (fun r => r = 1)) (([.ref (h 1)] : List Value)).toArray s 0 0 (fun _ => False)) (F0 m 4 ls []) := by
    intro n_1
    induction n_1 with
    | zero => intro x1 x2 hx0 hx1 hx2; intros; exfalso; omega
    | succ n_1 ih_1 =>
      intro x1 x2 hlo_1 hhi_1 hms_1 inv ls hl
      refine lv_iload_n hx hb dX8_countFilled_4 rfl (lv_at hl 1 rfl) ?_
      refine lv_bipush (v := 10) hx hb dX8_countFilled_5 (by decide) ?_
      refine lv_icmp_ge (tgt := 33) hx hb dX8_countFilled_7 (by decide) (fun c_2 => ?_) (fun c_2 => ?_)
      · skip
        simp only [fa_lt, fa_le, fa_eq, Int32.reduceToInt] at c_2
        refine lv_iload_n hx hb dX8_countFilled_33 rfl (lv_at hl 0 rfl) ?_
        refine W.widen (k := 0) (n := 0) (Nat.le_of_ble_eq_true rfl) (Nat.le_of_ble_eq_true rfl) ?_
        exact W.iret (v := x1) hx hb hr (fun t ht hW => ⟨x1, rfl, (inv.2 (by omega)), ht⟩) (fun q h => nomatch h) dX8_countFilled_34
      · skip
        simp only [fa_lt, fa_le, fa_eq, Int32.reduceToInt] at c_2
        refine lv_iload_n hx hb dX8_countFilled_10 rfl (lv_at hl 0 rfl) ?_
        refine lv_aload_n hx hb dX8_countFilled_11 rfl (lv_at hl 2 rfl) ?_
        refine va_get (D := D) (ci := 8) (v := .ref (h 3)) (C := RX8) (T := TX8) (N := 11) hx hb ht zinX8 hown hK hP 0 rfl rfl 2 (by decide) (ht _ zw_186) (fun _ h9 => h9) rfl dX8_countFilled_12 ?_
        refine lv_iload_n hx hb dX8_countFilled_15 rfl (lv_at hl 1 rfl) ?_
        refine va_aldq hx hb hK hP 1 0 rfl rfl (vp_in_iff.mpr ⟨by omega, by omega⟩) dX8_countFilled_16 ?_
        by_cases hk : x2.toNatClampNeg = p0.toNatClampNeg
        · skip
          have hk2 : x2.toInt = p0.toInt := by have h9 : x2.toInt.toNat = p0.toInt.toNat := hk; omega
          refine W.eq (g2 := F0 m 17 ls (.ref q :: .int x1 :: [])) (by show F0 m _ ls (va_rf (va_up _ _ _ _) :: _) = _; rw [hk, va_up_self]; rfl) ?_
          refine lv_ifnull hx hb dX8_countFilled_17 ?_
          refine lv_iconst (v := 1) hx hb dX8_countFilled_20 (by decide) ?_
          refine lv_goto (tgt := 25) hx hb dX8_countFilled_21 (by decide) ?_
          refine lv_iadd hx hb dX8_countFilled_25 ?_
          refine lv_topi (fun x_4 e_4 => ?_)
          refine lv_istore_n (lv' := [(1, .int x_4), (2, .int x2), (0, .ref (h 1))]) hx hb dX8_countFilled_26 rfl hl (by decide) rfl (fun ls hl => ?_)
          obtain ⟨x_5, e_5⟩ : ∃ y : Int32, y = x2 + 1 := ⟨_, rfl⟩
          refine lv_iinc (v := x_5) (lv' := [(2, .int x_5), (1, .int x_4), (0, .ref (h 1))]) hx hb dX8_countFilled_27 hl (k := 1) rfl (by rw [e_5]; rfl) (by decide) rfl (fun ls hl => ?_)
          refine lv_goto (tgt := 4) hx hb dX8_countFilled_30 (by decide) ?_
          have hinc_6 : x_5.toInt = x2.toInt + 1 := by rw [e_5]; exact zinc (by omega)
          exact ih_1 x_4 x_5 (by omega) (by omega) (by omega) (by rw [e_4]; exact ⟨fun h => by first | (exfalso; omega) | (rw [inv.1 (by omega)]; rfl), fun h => by first | (rw [inv.1 (by omega)]; rfl) | (rw [inv.2 (by omega)]; rfl)⟩)  ls (lv_sub hl [1, 0, 2] rfl)
        · skip
          have hk2 : ¬ x2.toInt = p0.toInt := fun h => hk (by show x2.toInt.toNat = p0.toInt.toNat; rw [h])
          refine W.eq (g2 := F0 m 17 ls (.null :: .int x1 :: [])) (by show F0 m _ ls (va_rf (va_up _ _ _ _) :: _) = _; rw [va_up_ne _ _ hk]; rfl) ?_
          refine lv_ifnullN (tgt := 24) hx hb dX8_countFilled_17 (by decide) ?_
          refine lv_iconst (v := 0) hx hb dX8_countFilled_24 (by decide) ?_
          refine lv_iadd hx hb dX8_countFilled_25 ?_
          refine lv_topi (fun x_7 e_7 => ?_)
          refine lv_istore_n (lv' := [(1, .int x_7), (2, .int x2), (0, .ref (h 1))]) hx hb dX8_countFilled_26 rfl hl (by decide) rfl (fun ls hl => ?_)
          obtain ⟨x_8, e_8⟩ : ∃ y : Int32, y = x2 + 1 := ⟨_, rfl⟩
          refine lv_iinc (v := x_8) (lv' := [(2, .int x_8), (1, .int x_7), (0, .ref (h 1))]) hx hb dX8_countFilled_27 hl (k := 1) rfl (by rw [e_8]; rfl) (by decide) rfl (fun ls hl => ?_)
          refine lv_goto (tgt := 4) hx hb dX8_countFilled_30 (by decide) ?_
          have hinc_9 : x_8.toInt = x2.toInt + 1 := by rw [e_8]; exact zinc (by omega)
          exact ih_1 x_7 x_8 (by omega) (by omega) (by omega) (by rw [e_7]; exact ⟨fun h => by first | (exfalso; omega) | (rw [inv.1 (by omega)]; rfl), fun h => by first | (rw [inv.1 (by omega)]; rfl) | (rw [inv.2 (by omega)]; rfl)⟩)  ls (lv_sub hl [1, 0, 2] rfl)
  refine hloop_1 11 0 0 (by decide) (by decide) (by decide) ⟨fun _ => rfl, fun h => by exfalso; rw [show (0 : Int32).toInt = 0 from rfl] at h; omega⟩  ls (lv_sub hl [1, 0, 2] rfl)
set_option maxHeartbeats 4000000 in
set_option maxRecDepth 100000 in
theorem k_X11_variable (l : Launch) (hl0 : l.stackTraces = false) (sz : Nat) (D : va_G) (h cs : Nat → Nat) (p0 p1 : Int32) (fn : Nat → Option Nat) (hn : ∀ k : Nat, k < 4 → fn k = some (h 8)) (fp f0 : Nat → Option Nat) (hp : fp 0 = some (h 10)) : vx_Met l yX11_variable (.code yX11_variable cX11_variable 3 (some .int) :: zT) ({ frames := 7, cells := 6, slots := 21, locals := 111 }) (va_Pc [.ref (h 0), .int p0, .int p1] (zW D [((h 0), .inr (11, [.ref (h 1), .ref (h 9), .int 0, .int 0, .ref (h 20), .ref (h 37), .int 0, .ref (h 38), .ref (h 42), .ref (h 43), .ref (h 44), .ref (h 45), .ref (h 46), .ref (h 47), .ref (h 48)])), ((h 1), .inr (8, [.ref (h 2), .int 0, .ref (h 3), .ref (h 4), .int 0, .ref (h 5), .int 0, .ref (h 6), .int 0, .ref (h 7), .int 0])), ((h 2), .inl ((cs 7), 4, .inr (.inr (.inr (.inr (fun _ => none)))))), ((h 3), .inl ((cs 9), 10, .inr (.inr (.inr (.inr (fun _ => none)))))), ((h 4), .inl ((cs 4), 100, .inr (.inr (.inr (.inr (fun _ => none)))))), ((h 5), .inl ((cs 2), 4, .inr (.inr (.inr (.inr (fun _ => none)))))), ((h 6), .inl ((cs 4), 3, .inr (.inr (.inr (.inr (fun _ => none)))))), ((h 7), .inl ((cs 0), 4, .inr (.inr (.inr (.inr fn))))), ((h 8), .inr (0, [.ref (h 102), .ref (h 103), .int 0])), ((h 9), .inl ((cs 8), 8, .inr (.inr (.inr (.inr fp))))), ((h 10), .inr (8, [.ref (h 11), .int 0, .ref (h 12), .ref (h 13), .int 0, .ref (h 14), .int 0, .ref (h 15), .int 0, .ref (h 16), .int 0])), ((h 11), .inl ((cs 7), 4, .inr (.inr (.inr (.inr (fun _ => none)))))), ((h 12), .inl ((cs 9), 10, .inr (.inr (.inr (.inr (fun _ => none)))))), ((h 13), .inl ((cs 4), 100, .inr (.inr (.inr (.inr (fun _ => none)))))), ((h 14), .inl ((cs 2), 4, .inr (.inr (.inr (.inr (fun _ => none)))))), ((h 15), .inl ((cs 4), 3, .inr (.inr (.inr (.inr (fun _ => none)))))), ((h 16), .inl ((cs 0), 4, .inr (.inr (.inr (.inr f0))))), ((h 43), .inl ((cs 13), 40, .inl zI0))] [((cs 7), .object RX7), ((cs 9), .object RX9), ((cs 4), .object RX4), ((cs 2), .object RX2), ((cs 0), .object RX0), ((cs 8), .object RX8), ((cs 13), .int)] sz)) (va_Qi (fun (r : Int32) (_ : Unit) => zS_variable p0 p1 0 r) (fun _ t => zE D [] [] (va_A [((h 0), .inr (11, [.ref (h 1), .ref (h 9), .int 0, .int 0, .ref (h 20), .ref (h 37), .int 0, .ref (h 38), .ref (h 42), .ref (h 43), .ref (h 44), .ref (h 45), .ref (h 46), .ref (h 47), .ref (h 48)])), ((h 1), .inr (8, [.ref (h 2), .int 0, .ref (h 3), .ref (h 4), .int 0, .ref (h 5), .int 0, .ref (h 6), .int 0, .ref (h 7), .int 0])), ((h 2), .inl ((cs 7), 4, .inr (.inr (.inr (.inr (fun _ => none)))))), ((h 3), .inl ((cs 9), 10, .inr (.inr (.inr (.inr (fun _ => none)))))), ((h 4), .inl ((cs 4), 100, .inr (.inr (.inr (.inr (fun _ => none)))))), ((h 5), .inl ((cs 2), 4, .inr (.inr (.inr (.inr (fun _ => none)))))), ((h 6), .inl ((cs 4), 3, .inr (.inr (.inr (.inr (fun _ => none)))))), ((h 7), .inl ((cs 0), 4, .inr (.inr (.inr (.inr fn))))), ((h 8), .inr (0, [.ref (h 102), .ref (h 103), .int 0])), ((h 9), .inl ((cs 8), 8, .inr (.inr (.inr (.inr fp))))), ((h 10), .inr (8, [.ref (h 11), .int 0, .ref (h 12), .ref (h 13), .int 0, .ref (h 14), .int 0, .ref (h 15), .int 0, .ref (h 16), .int 0])), ((h 11), .inl ((cs 7), 4, .inr (.inr (.inr (.inr (fun _ => none)))))), ((h 12), .inl ((cs 9), 10, .inr (.inr (.inr (.inr (fun _ => none)))))), ((h 13), .inl ((cs 4), 100, .inr (.inr (.inr (.inr (fun _ => none)))))), ((h 14), .inl ((cs 2), 4, .inr (.inr (.inr (.inr (fun _ => none)))))), ((h 15), .inl ((cs 4), 3, .inr (.inr (.inr (.inr (fun _ => none)))))), ((h 16), .inl ((cs 0), 4, .inr (.inr (.inr (.inr f0))))), ((h 43), .inl ((cs 13), 40, .inl zI0))] sz) t) (va_A [((h 0), .inr (11, [.ref (h 1), .ref (h 9), .int 0, .int 0, .ref (h 20), .ref (h 37), .int 0, .ref (h 38), .ref (h 42), .ref (h 43), .ref (h 44), .ref (h 45), .ref (h 46), .ref (h 47), .ref (h 48)])), ((h 1), .inr (8, [.ref (h 2), .int 0, .ref (h 3), .ref (h 4), .int 0, .ref (h 5), .int 0, .ref (h 6), .int 0, .ref (h 7), .int 0])), ((h 2), .inl ((cs 7), 4, .inr (.inr (.inr (.inr (fun _ => none)))))), ((h 3), .inl ((cs 9), 10, .inr (.inr (.inr (.inr (fun _ => none)))))), ((h 4), .inl ((cs 4), 100, .inr (.inr (.inr (.inr (fun _ => none)))))), ((h 5), .inl ((cs 2), 4, .inr (.inr (.inr (.inr (fun _ => none)))))), ((h 6), .inl ((cs 4), 3, .inr (.inr (.inr (.inr (fun _ => none)))))), ((h 7), .inl ((cs 0), 4, .inr (.inr (.inr (.inr fn))))), ((h 8), .inr (0, [.ref (h 102), .ref (h 103), .int 0])), ((h 9), .inl ((cs 8), 8, .inr (.inr (.inr (.inr fp))))), ((h 10), .inr (8, [.ref (h 11), .int 0, .ref (h 12), .ref (h 13), .int 0, .ref (h 14), .int 0, .ref (h 15), .int 0, .ref (h 16), .int 0])), ((h 11), .inl ((cs 7), 4, .inr (.inr (.inr (.inr (fun _ => none)))))), ((h 12), .inl ((cs 9), 10, .inr (.inr (.inr (.inr (fun _ => none)))))), ((h 13), .inl ((cs 4), 100, .inr (.inr (.inr (.inr (fun _ => none)))))), ((h 14), .inl ((cs 2), 4, .inr (.inr (.inr (.inr (fun _ => none)))))), ((h 15), .inl ((cs 4), 3, .inr (.inr (.inr (.inr (fun _ => none)))))), ((h 16), .inl ((cs 0), 4, .inr (.inr (.inr (.inr f0))))), ((h 43), .inl ((cs 13), 40, .inl zI0))] sz)) (vx_X (fun _ : Unit => True) (fun E _ _ => (E = "java/lang/IndexOutOfBoundsException" ∧ zS_variable p0 p1 1 0) ∨ (E = "java/lang/IllegalArgumentException" ∧ zS_variable p0 p1 2 0)) (va_A [((h 0), .inr (11, [.ref (h 1), .ref (h 9), .int 0, .int 0, .ref (h 20), .ref (h 37), .int 0, .ref (h 38), .ref (h 42), .ref (h 43), .ref (h 44), .ref (h 45), .ref (h 46), .ref (h 47), .ref (h 48)])), ((h 1), .inr (8, [.ref (h 2), .int 0, .ref (h 3), .ref (h 4), .int 0, .ref (h 5), .int 0, .ref (h 6), .int 0, .ref (h 7), .int 0])), ((h 2), .inl ((cs 7), 4, .inr (.inr (.inr (.inr (fun _ => none)))))), ((h 3), .inl ((cs 9), 10, .inr (.inr (.inr (.inr (fun _ => none)))))), ((h 4), .inl ((cs 4), 100, .inr (.inr (.inr (.inr (fun _ => none)))))), ((h 5), .inl ((cs 2), 4, .inr (.inr (.inr (.inr (fun _ => none)))))), ((h 6), .inl ((cs 4), 3, .inr (.inr (.inr (.inr (fun _ => none)))))), ((h 7), .inl ((cs 0), 4, .inr (.inr (.inr (.inr fn))))), ((h 8), .inr (0, [.ref (h 102), .ref (h 103), .int 0])), ((h 9), .inl ((cs 8), 8, .inr (.inr (.inr (.inr fp))))), ((h 10), .inr (8, [.ref (h 11), .int 0, .ref (h 12), .ref (h 13), .int 0, .ref (h 14), .int 0, .ref (h 15), .int 0, .ref (h 16), .int 0])), ((h 11), .inl ((cs 7), 4, .inr (.inr (.inr (.inr (fun _ => none)))))), ((h 12), .inl ((cs 9), 10, .inr (.inr (.inr (.inr (fun _ => none)))))), ((h 13), .inl ((cs 4), 100, .inr (.inr (.inr (.inr (fun _ => none)))))), ((h 14), .inl ((cs 2), 4, .inr (.inr (.inr (.inr (fun _ => none)))))), ((h 15), .inl ((cs 4), 3, .inr (.inr (.inr (.inr (fun _ => none)))))), ((h 16), .inl ((cs 0), 4, .inr (.inr (.inr (.inr f0))))), ((h 43), .inl ((cs 13), 40, .inl zI0))] sz)) 6 21 (va_A [((h 0), .inr (11, [.ref (h 1), .ref (h 9), .int 0, .int 0, .ref (h 20), .ref (h 37), .int 0, .ref (h 38), .ref (h 42), .ref (h 43), .ref (h 44), .ref (h 45), .ref (h 46), .ref (h 47), .ref (h 48)])), ((h 1), .inr (8, [.ref (h 2), .int 0, .ref (h 3), .ref (h 4), .int 0, .ref (h 5), .int 0, .ref (h 6), .int 0, .ref (h 7), .int 0])), ((h 2), .inl ((cs 7), 4, .inr (.inr (.inr (.inr (fun _ => none)))))), ((h 3), .inl ((cs 9), 10, .inr (.inr (.inr (.inr (fun _ => none)))))), ((h 4), .inl ((cs 4), 100, .inr (.inr (.inr (.inr (fun _ => none)))))), ((h 5), .inl ((cs 2), 4, .inr (.inr (.inr (.inr (fun _ => none)))))), ((h 6), .inl ((cs 4), 3, .inr (.inr (.inr (.inr (fun _ => none)))))), ((h 7), .inl ((cs 0), 4, .inr (.inr (.inr (.inr fn))))), ((h 8), .inr (0, [.ref (h 102), .ref (h 103), .int 0])), ((h 9), .inl ((cs 8), 8, .inr (.inr (.inr (.inr fp))))), ((h 10), .inr (8, [.ref (h 11), .int 0, .ref (h 12), .ref (h 13), .int 0, .ref (h 14), .int 0, .ref (h 15), .int 0, .ref (h 16), .int 0])), ((h 11), .inl ((cs 7), 4, .inr (.inr (.inr (.inr (fun _ => none)))))), ((h 12), .inl ((cs 9), 10, .inr (.inr (.inr (.inr (fun _ => none)))))), ((h 13), .inl ((cs 4), 100, .inr (.inr (.inr (.inr (fun _ => none)))))), ((h 14), .inl ((cs 2), 4, .inr (.inr (.inr (.inr (fun _ => none)))))), ((h 15), .inl ((cs 4), 3, .inr (.inr (.inr (.inr (fun _ => none)))))), ((h 16), .inl ((cs 0), 4, .inr (.inr (.inr (.inr f0))))), ((h 43), .inl ((cs 13), 40, .inl zI0))] sz) := by
  refine vx_ofW (cc := cX11_variable) (maxL := 3) (ret := (some .int)) (by decide) rfl ?_
  intro p e s m args below meth c s₁ B hml hexc hv
  obtain ⟨rfl, hEx, hsz, hP, hK, hD0⟩ := hv
  have hx := B.exec
  have hb := B.bytes
  have hr := B.returns
  have hts := atoms_spec (ws := (.code yX11_variable cX11_variable 3 (some .int) :: zT)) B.pre
  have ht : ∀ w ∈ zT, w.before _ s = true := fun w h => hts w (List.mem_cons_of_mem _ h)
  have hown : s.vm.findClass RX11 = some m.cls := findClass_of_methodNamed B.named
  have hlocks := B.notSynchronized
  subst hsz
  have hD := hD0.self (sz := s.heap.size)
  generalize hAe : va_A [((h 0), .inr (11, [.ref (h 1), .ref (h 9), .int 0, .int 0, .ref (h 20), .ref (h 37), .int 0, .ref (h 38), .ref (h 42), .ref (h 43), .ref (h 44), .ref (h 45), .ref (h 46), .ref (h 47), .ref (h 48)])), ((h 1), .inr (8, [.ref (h 2), .int 0, .ref (h 3), .ref (h 4), .int 0, .ref (h 5), .int 0, .ref (h 6), .int 0, .ref (h 7), .int 0])), ((h 2), .inl ((cs 7), 4, .inr (.inr (.inr (.inr (fun _ => none)))))), ((h 3), .inl ((cs 9), 10, .inr (.inr (.inr (.inr (fun _ => none)))))), ((h 4), .inl ((cs 4), 100, .inr (.inr (.inr (.inr (fun _ => none)))))), ((h 5), .inl ((cs 2), 4, .inr (.inr (.inr (.inr (fun _ => none)))))), ((h 6), .inl ((cs 4), 3, .inr (.inr (.inr (.inr (fun _ => none)))))), ((h 7), .inl ((cs 0), 4, .inr (.inr (.inr (.inr fn))))), ((h 8), .inr (0, [.ref (h 102), .ref (h 103), .int 0])), ((h 9), .inl ((cs 8), 8, .inr (.inr (.inr (.inr fp))))), ((h 10), .inr (8, [.ref (h 11), .int 0, .ref (h 12), .ref (h 13), .int 0, .ref (h 14), .int 0, .ref (h 15), .int 0, .ref (h 16), .int 0])), ((h 11), .inl ((cs 7), 4, .inr (.inr (.inr (.inr (fun _ => none)))))), ((h 12), .inl ((cs 9), 10, .inr (.inr (.inr (.inr (fun _ => none)))))), ((h 13), .inl ((cs 4), 100, .inr (.inr (.inr (.inr (fun _ => none)))))), ((h 14), .inl ((cs 2), 4, .inr (.inr (.inr (.inr (fun _ => none)))))), ((h 15), .inl ((cs 4), 3, .inr (.inr (.inr (.inr (fun _ => none)))))), ((h 16), .inl ((cs 0), 4, .inr (.inr (.inr (.inr f0))))), ((h 43), .inl ((cs 13), 40, .inl zI0))] s.heap.size = A at hD hEx ⊢
  have hA : ∀ q : Nat, s.heap.size ≤ q → A q := fun q h => by rw [← hAe]; exact Or.inr h
  have hS : va_S A s.heap s.heap [] := va_S.rf
  have hP : va_P D vwCl [((h 0), .inr (11, [.ref (h 1), .ref (h 9), .int 0, .int 0, .ref (h 20), .ref (h 37), .int 0, .ref (h 38), .ref (h 42), .ref (h 43), .ref (h 44), .ref (h 45), .ref (h 46), .ref (h 47), .ref (h 48)])), ((h 1), .inr (8, [.ref (h 2), .int 0, .ref (h 3), .ref (h 4), .int 0, .ref (h 5), .int 0, .ref (h 6), .int 0, .ref (h 7), .int 0])), ((h 2), .inl ((cs 7), 4, .inr (.inr (.inr (.inr (fun _ => none)))))), ((h 3), .inl ((cs 9), 10, .inr (.inr (.inr (.inr (fun _ => none)))))), ((h 4), .inl ((cs 4), 100, .inr (.inr (.inr (.inr (fun _ => none)))))), ((h 5), .inl ((cs 2), 4, .inr (.inr (.inr (.inr (fun _ => none)))))), ((h 6), .inl ((cs 4), 3, .inr (.inr (.inr (.inr (fun _ => none)))))), ((h 7), .inl ((cs 0), 4, .inr (.inr (.inr (.inr fn))))), ((h 8), .inr (0, [.ref (h 102), .ref (h 103), .int 0])), ((h 9), .inl ((cs 8), 8, .inr (.inr (.inr (.inr fp))))), ((h 10), .inr (8, [.ref (h 11), .int 0, .ref (h 12), .ref (h 13), .int 0, .ref (h 14), .int 0, .ref (h 15), .int 0, .ref (h 16), .int 0])), ((h 11), .inl ((cs 7), 4, .inr (.inr (.inr (.inr (fun _ => none)))))), ((h 12), .inl ((cs 9), 10, .inr (.inr (.inr (.inr (fun _ => none)))))), ((h 13), .inl ((cs 4), 100, .inr (.inr (.inr (.inr (fun _ => none)))))), ((h 14), .inl ((cs 2), 4, .inr (.inr (.inr (.inr (fun _ => none)))))), ((h 15), .inl ((cs 4), 3, .inr (.inr (.inr (.inr (fun _ => none)))))), ((h 16), .inl ((cs 0), 4, .inr (.inr (.inr (.inr f0))))), ((h 43), .inl ((cs 13), 40, .inl zI0))] s.heap := hP
  have hl := lv_entry ([.ref (h 0), .int p0, .int p1]) (n := 3) (Nat.le_of_ble_eq_true rfl)
  rw [lg_entry_eq]
  generalize (lg_sl ([.ref (h 0), .int p0, .int p1]) ++ List.replicate (3 - (lg_sl ([.ref (h 0), .int p0, .int p1])).length) Slot.unset).toArray = ls at hl ⊢
  have hl : lv_has ls 3 [(0, .ref (h 0)), (1, .int p0), (2, .int p1)] := hl
  skip
  refine lv_iload_n hx hb dX11_variable_0 rfl (lv_at hl 1 rfl) ?_
  refine lv_bipush (v := 10) hx hb dX11_variable_1 (by decide) ?_
  have hPc := hP.sub (ws' := []) [] rfl
  have hDc := hD.sub (ws' := []) [] (by decide) rfl
  have hKc := hK.sub (tys' := []) [] rfl
  have hFc := va_free (wc := []) hD hS hA [] rfl
  refine vx_callv (vx_runS (As := [.int p0, .int 10]) (rest := []) ⟨hx, hb, hml, hown, ht⟩ (k_X11_checkIndex l hl0 _ D p0 10) (va_cwS 2 ht (zG_S zw_402 zw_403 zw_404 zw_405) rfl rfl rfl (by decide +kernel) ⟨Nat.le_of_ble_eq_true rfl, Nat.le_of_ble_eq_true rfl⟩) (zW_S hEx hS hFc hPc hKc hDc) rfl rfl hl.1 rfl (lv_room (Nat.le_of_ble_eq_true rfl)) dX11_variable_3 ⟨Nat.le_of_ble_eq_true rfl, Nat.le_of_ble_eq_true rfl⟩) hS (fun q _ h => hFc q h) hFc (fun q _ h => hFc q h) (fun E ce q9 uu t H1 locs1 ht0 hvm hpx hB hz1 hk1 hS hcell hv hcl => ?_) (fun u_1 t H1 locs ht0 hvm hw_1 hB hz1 hk1 hS => ?_)
  · exact vx_out (fun x hx => (hexc x hx).elim) hlocks hcell hv hcl (fun t2 h2 hv2 => ⟨(), trivial, (by obtain ⟨hE, hb9⟩ := hB; (try simp only [Int32.reduceToInt] at hb9); exact .inl ⟨hE, (show zS_variable p0 p1 1 0 from (.inl ⟨rfl, by omega⟩))⟩), hS.F h2⟩) hS.2.2 (Nat.le_of_ble_eq_true rfl) (Nat.le_of_ble_eq_true rfl)
  obtain ⟨hP1, hK1, hD1⟩ := hB
  rw [ht0] at hP1
  have hK1 := va_K.moved hvm.symm hK1
  obtain ⟨hP, hD⟩ := va_join (wr := [((h 0), .inr (11, [.ref (h 1), .ref (h 9), .int 0, .int 0, .ref (h 20), .ref (h 37), .int 0, .ref (h 38), .ref (h 42), .ref (h 43), .ref (h 44), .ref (h 45), .ref (h 46), .ref (h 47), .ref (h 48)])), ((h 1), .inr (8, [.ref (h 2), .int 0, .ref (h 3), .ref (h 4), .int 0, .ref (h 5), .int 0, .ref (h 6), .int 0, .ref (h 7), .int 0])), ((h 2), .inl ((cs 7), 4, .inr (.inr (.inr (.inr (fun _ => none)))))), ((h 3), .inl ((cs 9), 10, .inr (.inr (.inr (.inr (fun _ => none)))))), ((h 4), .inl ((cs 4), 100, .inr (.inr (.inr (.inr (fun _ => none)))))), ((h 5), .inl ((cs 2), 4, .inr (.inr (.inr (.inr (fun _ => none)))))), ((h 6), .inl ((cs 4), 3, .inr (.inr (.inr (.inr (fun _ => none)))))), ((h 7), .inl ((cs 0), 4, .inr (.inr (.inr (.inr fn))))), ((h 8), .inr (0, [.ref (h 102), .ref (h 103), .int 0])), ((h 9), .inl ((cs 8), 8, .inr (.inr (.inr (.inr fp))))), ((h 10), .inr (8, [.ref (h 11), .int 0, .ref (h 12), .ref (h 13), .int 0, .ref (h 14), .int 0, .ref (h 15), .int 0, .ref (h 16), .int 0])), ((h 11), .inl ((cs 7), 4, .inr (.inr (.inr (.inr (fun _ => none)))))), ((h 12), .inl ((cs 9), 10, .inr (.inr (.inr (.inr (fun _ => none)))))), ((h 13), .inl ((cs 4), 100, .inr (.inr (.inr (.inr (fun _ => none)))))), ((h 14), .inl ((cs 2), 4, .inr (.inr (.inr (.inr (fun _ => none)))))), ((h 15), .inl ((cs 4), 3, .inr (.inr (.inr (.inr (fun _ => none)))))), ((h 16), .inl ((cs 0), 4, .inr (.inr (.inr (.inr f0))))), ((h 43), .inl ((cs 13), 40, .inl zI0))]) (w1 := []) hP hD [] [0, 1, 2, 3, 4, 5, 6, 7, 8, 9, 10, 11, 12, 13, 14, 15, 16, 17] rfl rfl (by decide) (by decide) hk1 hFc hP1 hD1
  generalize H1 = H at hP hS ⊢
  have hP : va_P D vwCl [((h 0), .inr (11, [.ref (h 1), .ref (h 9), .int 0, .int 0, .ref (h 20), .ref (h 37), .int 0, .ref (h 38), .ref (h 42), .ref (h 43), .ref (h 44), .ref (h 45), .ref (h 46), .ref (h 47), .ref (h 48)])), ((h 1), .inr (8, [.ref (h 2), .int 0, .ref (h 3), .ref (h 4), .int 0, .ref (h 5), .int 0, .ref (h 6), .int 0, .ref (h 7), .int 0])), ((h 2), .inl ((cs 7), 4, .inr (.inr (.inr (.inr (fun _ => none)))))), ((h 3), .inl ((cs 9), 10, .inr (.inr (.inr (.inr (fun _ => none)))))), ((h 4), .inl ((cs 4), 100, .inr (.inr (.inr (.inr (fun _ => none)))))), ((h 5), .inl ((cs 2), 4, .inr (.inr (.inr (.inr (fun _ => none)))))), ((h 6), .inl ((cs 4), 3, .inr (.inr (.inr (.inr (fun _ => none)))))), ((h 7), .inl ((cs 0), 4, .inr (.inr (.inr (.inr fn))))), ((h 8), .inr (0, [.ref (h 102), .ref (h 103), .int 0])), ((h 9), .inl ((cs 8), 8, .inr (.inr (.inr (.inr fp))))), ((h 10), .inr (8, [.ref (h 11), .int 0, .ref (h 12), .ref (h 13), .int 0, .ref (h 14), .int 0, .ref (h 15), .int 0, .ref (h 16), .int 0])), ((h 11), .inl ((cs 7), 4, .inr (.inr (.inr (.inr (fun _ => none)))))), ((h 12), .inl ((cs 9), 10, .inr (.inr (.inr (.inr (fun _ => none)))))), ((h 13), .inl ((cs 4), 100, .inr (.inr (.inr (.inr (fun _ => none)))))), ((h 14), .inl ((cs 2), 4, .inr (.inr (.inr (.inr (fun _ => none)))))), ((h 15), .inl ((cs 4), 3, .inr (.inr (.inr (.inr (fun _ => none)))))), ((h 16), .inl ((cs 0), 4, .inr (.inr (.inr (.inr f0))))), ((h 43), .inl ((cs 13), 40, .inl zI0))] H := hP
  have hD : va_D A [((h 0), .inr (11, [.ref (h 1), .ref (h 9), .int 0, .int 0, .ref (h 20), .ref (h 37), .int 0, .ref (h 38), .ref (h 42), .ref (h 43), .ref (h 44), .ref (h 45), .ref (h 46), .ref (h 47), .ref (h 48)])), ((h 1), .inr (8, [.ref (h 2), .int 0, .ref (h 3), .ref (h 4), .int 0, .ref (h 5), .int 0, .ref (h 6), .int 0, .ref (h 7), .int 0])), ((h 2), .inl ((cs 7), 4, .inr (.inr (.inr (.inr (fun _ => none)))))), ((h 3), .inl ((cs 9), 10, .inr (.inr (.inr (.inr (fun _ => none)))))), ((h 4), .inl ((cs 4), 100, .inr (.inr (.inr (.inr (fun _ => none)))))), ((h 5), .inl ((cs 2), 4, .inr (.inr (.inr (.inr (fun _ => none)))))), ((h 6), .inl ((cs 4), 3, .inr (.inr (.inr (.inr (fun _ => none)))))), ((h 7), .inl ((cs 0), 4, .inr (.inr (.inr (.inr fn))))), ((h 8), .inr (0, [.ref (h 102), .ref (h 103), .int 0])), ((h 9), .inl ((cs 8), 8, .inr (.inr (.inr (.inr fp))))), ((h 10), .inr (8, [.ref (h 11), .int 0, .ref (h 12), .ref (h 13), .int 0, .ref (h 14), .int 0, .ref (h 15), .int 0, .ref (h 16), .int 0])), ((h 11), .inl ((cs 7), 4, .inr (.inr (.inr (.inr (fun _ => none)))))), ((h 12), .inl ((cs 9), 10, .inr (.inr (.inr (.inr (fun _ => none)))))), ((h 13), .inl ((cs 4), 100, .inr (.inr (.inr (.inr (fun _ => none)))))), ((h 14), .inl ((cs 2), 4, .inr (.inr (.inr (.inr (fun _ => none)))))), ((h 15), .inl ((cs 4), 3, .inr (.inr (.inr (.inr (fun _ => none)))))), ((h 16), .inl ((cs 0), 4, .inr (.inr (.inr (.inr f0))))), ((h 43), .inl ((cs 13), 40, .inl zI0))] := hD
  refine W.widen (k := 1) (n := 6) (Nat.le_of_ble_eq_true rfl) (Nat.le_of_ble_eq_true rfl) ?_
  simp only [Int32.reduceToInt] at hw_1
  refine lv_iload_n hx hb dX11_variable_6 rfl (lv_at hl 2 rfl) ?_
  refine lv_iconst (v := 3) hx hb dX11_variable_7 (by decide) ?_
  have hPc := hP.sub (ws' := []) [] rfl
  have hDc := hD.sub (ws' := []) [] (by decide) rfl
  have hKc := hK.sub (tys' := []) [] rfl
  have hFc := va_free (wc := []) hD hS hA [] rfl
  refine vx_callv (vx_runS (As := [.int p1, .int 3]) (rest := []) ⟨hx, hb, hml, hown, ht⟩ (k_X11_checkNumber l hl0 _ D p1 3) (va_cwS 2 ht (zG_S zw_410 zw_411 zw_404 zw_412) rfl rfl rfl (by decide +kernel) ⟨Nat.le_of_ble_eq_true rfl, Nat.le_of_ble_eq_true rfl⟩) (zW_S hEx hS hFc hPc hKc hDc) rfl rfl hl.1 rfl (lv_room (Nat.le_of_ble_eq_true rfl)) dX11_variable_8 ⟨Nat.le_of_ble_eq_true rfl, Nat.le_of_ble_eq_true rfl⟩) hS (fun q _ h => hFc q h) hFc (fun q _ h => hFc q h) (fun E ce q9 uu t H1 locs1 ht0 hvm hpx hB hz1 hk1 hS hcell hv hcl => ?_) (fun u_2 t H1 locs ht0 hvm hw_2 hB hz1 hk1 hS => ?_)
  · exact vx_out (fun x hx => (hexc x hx).elim) hlocks hcell hv hcl (fun t2 h2 hv2 => ⟨(), trivial, (by obtain ⟨hE, hb9⟩ := hB; (try simp only [Int32.reduceToInt] at hb9); exact .inr (⟨hE, (show zS_variable p0 p1 2 0 from (.inr (.inl ⟨rfl, by omega⟩)))⟩)), hS.F h2⟩) hS.2.2 (Nat.le_of_ble_eq_true rfl) (Nat.le_of_ble_eq_true rfl)
  obtain ⟨hP1, hK1, hD1⟩ := hB
  rw [ht0] at hP1
  have hK1 := va_K.moved hvm.symm hK1
  obtain ⟨hP, hD⟩ := va_join (wr := [((h 0), .inr (11, [.ref (h 1), .ref (h 9), .int 0, .int 0, .ref (h 20), .ref (h 37), .int 0, .ref (h 38), .ref (h 42), .ref (h 43), .ref (h 44), .ref (h 45), .ref (h 46), .ref (h 47), .ref (h 48)])), ((h 1), .inr (8, [.ref (h 2), .int 0, .ref (h 3), .ref (h 4), .int 0, .ref (h 5), .int 0, .ref (h 6), .int 0, .ref (h 7), .int 0])), ((h 2), .inl ((cs 7), 4, .inr (.inr (.inr (.inr (fun _ => none)))))), ((h 3), .inl ((cs 9), 10, .inr (.inr (.inr (.inr (fun _ => none)))))), ((h 4), .inl ((cs 4), 100, .inr (.inr (.inr (.inr (fun _ => none)))))), ((h 5), .inl ((cs 2), 4, .inr (.inr (.inr (.inr (fun _ => none)))))), ((h 6), .inl ((cs 4), 3, .inr (.inr (.inr (.inr (fun _ => none)))))), ((h 7), .inl ((cs 0), 4, .inr (.inr (.inr (.inr fn))))), ((h 8), .inr (0, [.ref (h 102), .ref (h 103), .int 0])), ((h 9), .inl ((cs 8), 8, .inr (.inr (.inr (.inr fp))))), ((h 10), .inr (8, [.ref (h 11), .int 0, .ref (h 12), .ref (h 13), .int 0, .ref (h 14), .int 0, .ref (h 15), .int 0, .ref (h 16), .int 0])), ((h 11), .inl ((cs 7), 4, .inr (.inr (.inr (.inr (fun _ => none)))))), ((h 12), .inl ((cs 9), 10, .inr (.inr (.inr (.inr (fun _ => none)))))), ((h 13), .inl ((cs 4), 100, .inr (.inr (.inr (.inr (fun _ => none)))))), ((h 14), .inl ((cs 2), 4, .inr (.inr (.inr (.inr (fun _ => none)))))), ((h 15), .inl ((cs 4), 3, .inr (.inr (.inr (.inr (fun _ => none)))))), ((h 16), .inl ((cs 0), 4, .inr (.inr (.inr (.inr f0))))), ((h 43), .inl ((cs 13), 40, .inl zI0))]) (w1 := []) hP hD [] [0, 1, 2, 3, 4, 5, 6, 7, 8, 9, 10, 11, 12, 13, 14, 15, 16, 17] rfl rfl (by decide) (by decide) hk1 hFc hP1 hD1
  generalize H1 = H at hP hS ⊢
  have hP : va_P D vwCl [((h 0), .inr (11, [.ref (h 1), .ref (h 9), .int 0, .int 0, .ref (h 20), .ref (h 37), .int 0, .ref (h 38), .ref (h 42), .ref (h 43), .ref (h 44), .ref (h 45), .ref (h 46), .ref (h 47), .ref (h 48)])), ((h 1), .inr (8, [.ref (h 2), .int 0, .ref (h 3), .ref (h 4), .int 0, .ref (h 5), .int 0, .ref (h 6), .int 0, .ref (h 7), .int 0])), ((h 2), .inl ((cs 7), 4, .inr (.inr (.inr (.inr (fun _ => none)))))), ((h 3), .inl ((cs 9), 10, .inr (.inr (.inr (.inr (fun _ => none)))))), ((h 4), .inl ((cs 4), 100, .inr (.inr (.inr (.inr (fun _ => none)))))), ((h 5), .inl ((cs 2), 4, .inr (.inr (.inr (.inr (fun _ => none)))))), ((h 6), .inl ((cs 4), 3, .inr (.inr (.inr (.inr (fun _ => none)))))), ((h 7), .inl ((cs 0), 4, .inr (.inr (.inr (.inr fn))))), ((h 8), .inr (0, [.ref (h 102), .ref (h 103), .int 0])), ((h 9), .inl ((cs 8), 8, .inr (.inr (.inr (.inr fp))))), ((h 10), .inr (8, [.ref (h 11), .int 0, .ref (h 12), .ref (h 13), .int 0, .ref (h 14), .int 0, .ref (h 15), .int 0, .ref (h 16), .int 0])), ((h 11), .inl ((cs 7), 4, .inr (.inr (.inr (.inr (fun _ => none)))))), ((h 12), .inl ((cs 9), 10, .inr (.inr (.inr (.inr (fun _ => none)))))), ((h 13), .inl ((cs 4), 100, .inr (.inr (.inr (.inr (fun _ => none)))))), ((h 14), .inl ((cs 2), 4, .inr (.inr (.inr (.inr (fun _ => none)))))), ((h 15), .inl ((cs 4), 3, .inr (.inr (.inr (.inr (fun _ => none)))))), ((h 16), .inl ((cs 0), 4, .inr (.inr (.inr (.inr f0))))), ((h 43), .inl ((cs 13), 40, .inl zI0))] H := hP
  have hD : va_D A [((h 0), .inr (11, [.ref (h 1), .ref (h 9), .int 0, .int 0, .ref (h 20), .ref (h 37), .int 0, .ref (h 38), .ref (h 42), .ref (h 43), .ref (h 44), .ref (h 45), .ref (h 46), .ref (h 47), .ref (h 48)])), ((h 1), .inr (8, [.ref (h 2), .int 0, .ref (h 3), .ref (h 4), .int 0, .ref (h 5), .int 0, .ref (h 6), .int 0, .ref (h 7), .int 0])), ((h 2), .inl ((cs 7), 4, .inr (.inr (.inr (.inr (fun _ => none)))))), ((h 3), .inl ((cs 9), 10, .inr (.inr (.inr (.inr (fun _ => none)))))), ((h 4), .inl ((cs 4), 100, .inr (.inr (.inr (.inr (fun _ => none)))))), ((h 5), .inl ((cs 2), 4, .inr (.inr (.inr (.inr (fun _ => none)))))), ((h 6), .inl ((cs 4), 3, .inr (.inr (.inr (.inr (fun _ => none)))))), ((h 7), .inl ((cs 0), 4, .inr (.inr (.inr (.inr fn))))), ((h 8), .inr (0, [.ref (h 102), .ref (h 103), .int 0])), ((h 9), .inl ((cs 8), 8, .inr (.inr (.inr (.inr fp))))), ((h 10), .inr (8, [.ref (h 11), .int 0, .ref (h 12), .ref (h 13), .int 0, .ref (h 14), .int 0, .ref (h 15), .int 0, .ref (h 16), .int 0])), ((h 11), .inl ((cs 7), 4, .inr (.inr (.inr (.inr (fun _ => none)))))), ((h 12), .inl ((cs 9), 10, .inr (.inr (.inr (.inr (fun _ => none)))))), ((h 13), .inl ((cs 4), 100, .inr (.inr (.inr (.inr (fun _ => none)))))), ((h 14), .inl ((cs 2), 4, .inr (.inr (.inr (.inr (fun _ => none)))))), ((h 15), .inl ((cs 4), 3, .inr (.inr (.inr (.inr (fun _ => none)))))), ((h 16), .inl ((cs 0), 4, .inr (.inr (.inr (.inr f0))))), ((h 43), .inl ((cs 13), 40, .inl zI0))] := hD
  refine W.widen (k := 2) (n := 12) (Nat.le_of_ble_eq_true rfl) (Nat.le_of_ble_eq_true rfl) ?_
  simp only [Int32.reduceToInt] at hw_2
  refine lv_aload_n hx hb dX11_variable_11 rfl (lv_at hl 0 rfl) ?_
  have hPc := hP.sub (ws' := [((h 0), .inr (11, [.ref (h 1), .ref (h 9), .int 0, .int 0, .ref (h 20), .ref (h 37), .int 0, .ref (h 38), .ref (h 42), .ref (h 43), .ref (h 44), .ref (h 45), .ref (h 46), .ref (h 47), .ref (h 48)])), ((h 1), .inr (8, [.ref (h 2), .int 0, .ref (h 3), .ref (h 4), .int 0, .ref (h 5), .int 0, .ref (h 6), .int 0, .ref (h 7), .int 0])), ((h 2), .inl ((cs 7), 4, .inr (.inr (.inr (.inr (fun _ => none)))))), ((h 3), .inl ((cs 9), 10, .inr (.inr (.inr (.inr (fun _ => none)))))), ((h 4), .inl ((cs 4), 100, .inr (.inr (.inr (.inr (fun _ => none)))))), ((h 5), .inl ((cs 2), 4, .inr (.inr (.inr (.inr (fun _ => none)))))), ((h 6), .inl ((cs 4), 3, .inr (.inr (.inr (.inr (fun _ => none)))))), ((h 7), .inl ((cs 0), 4, .inr (.inr (.inr (.inr fn))))), ((h 8), .inr (0, [.ref (h 102), .ref (h 103), .int 0])), ((h 9), .inl ((cs 8), 8, .inr (.inr (.inr (.inr fp))))), ((h 10), .inr (8, [.ref (h 11), .int 0, .ref (h 12), .ref (h 13), .int 0, .ref (h 14), .int 0, .ref (h 15), .int 0, .ref (h 16), .int 0])), ((h 11), .inl ((cs 7), 4, .inr (.inr (.inr (.inr (fun _ => none)))))), ((h 12), .inl ((cs 9), 10, .inr (.inr (.inr (.inr (fun _ => none)))))), ((h 13), .inl ((cs 4), 100, .inr (.inr (.inr (.inr (fun _ => none)))))), ((h 14), .inl ((cs 2), 4, .inr (.inr (.inr (.inr (fun _ => none)))))), ((h 15), .inl ((cs 4), 3, .inr (.inr (.inr (.inr (fun _ => none)))))), ((h 16), .inl ((cs 0), 4, .inr (.inr (.inr (.inr f0)))))]) [0, 1, 2, 3, 4, 5, 6, 7, 8, 9, 10, 11, 12, 13, 14, 15, 16] rfl
  have hDc := hD.sub (ws' := [((h 0), .inr (11, [.ref (h 1), .ref (h 9), .int 0, .int 0, .ref (h 20), .ref (h 37), .int 0, .ref (h 38), .ref (h 42), .ref (h 43), .ref (h 44), .ref (h 45), .ref (h 46), .ref (h 47), .ref (h 48)])), ((h 1), .inr (8, [.ref (h 2), .int 0, .ref (h 3), .ref (h 4), .int 0, .ref (h 5), .int 0, .ref (h 6), .int 0, .ref (h 7), .int 0])), ((h 2), .inl ((cs 7), 4, .inr (.inr (.inr (.inr (fun _ => none)))))), ((h 3), .inl ((cs 9), 10, .inr (.inr (.inr (.inr (fun _ => none)))))), ((h 4), .inl ((cs 4), 100, .inr (.inr (.inr (.inr (fun _ => none)))))), ((h 5), .inl ((cs 2), 4, .inr (.inr (.inr (.inr (fun _ => none)))))), ((h 6), .inl ((cs 4), 3, .inr (.inr (.inr (.inr (fun _ => none)))))), ((h 7), .inl ((cs 0), 4, .inr (.inr (.inr (.inr fn))))), ((h 8), .inr (0, [.ref (h 102), .ref (h 103), .int 0])), ((h 9), .inl ((cs 8), 8, .inr (.inr (.inr (.inr fp))))), ((h 10), .inr (8, [.ref (h 11), .int 0, .ref (h 12), .ref (h 13), .int 0, .ref (h 14), .int 0, .ref (h 15), .int 0, .ref (h 16), .int 0])), ((h 11), .inl ((cs 7), 4, .inr (.inr (.inr (.inr (fun _ => none)))))), ((h 12), .inl ((cs 9), 10, .inr (.inr (.inr (.inr (fun _ => none)))))), ((h 13), .inl ((cs 4), 100, .inr (.inr (.inr (.inr (fun _ => none)))))), ((h 14), .inl ((cs 2), 4, .inr (.inr (.inr (.inr (fun _ => none)))))), ((h 15), .inl ((cs 4), 3, .inr (.inr (.inr (.inr (fun _ => none)))))), ((h 16), .inl ((cs 0), 4, .inr (.inr (.inr (.inr f0)))))]) [0, 1, 2, 3, 4, 5, 6, 7, 8, 9, 10, 11, 12, 13, 14, 15, 16] (by decide) rfl
  have hKc := hK.sub (tys' := [((cs 7), .object RX7), ((cs 9), .object RX9), ((cs 4), .object RX4), ((cs 2), .object RX2), ((cs 0), .object RX0), ((cs 8), .object RX8)]) [0, 1, 2, 3, 4, 5] rfl
  have hFc := va_free (wc := [((h 0), .inr (11, [.ref (h 1), .ref (h 9), .int 0, .int 0, .ref (h 20), .ref (h 37), .int 0, .ref (h 38), .ref (h 42), .ref (h 43), .ref (h 44), .ref (h 45), .ref (h 46), .ref (h 47), .ref (h 48)])), ((h 1), .inr (8, [.ref (h 2), .int 0, .ref (h 3), .ref (h 4), .int 0, .ref (h 5), .int 0, .ref (h 6), .int 0, .ref (h 7), .int 0])), ((h 2), .inl ((cs 7), 4, .inr (.inr (.inr (.inr (fun _ => none)))))), ((h 3), .inl ((cs 9), 10, .inr (.inr (.inr (.inr (fun _ => none)))))), ((h 4), .inl ((cs 4), 100, .inr (.inr (.inr (.inr (fun _ => none)))))), ((h 5), .inl ((cs 2), 4, .inr (.inr (.inr (.inr (fun _ => none)))))), ((h 6), .inl ((cs 4), 3, .inr (.inr (.inr (.inr (fun _ => none)))))), ((h 7), .inl ((cs 0), 4, .inr (.inr (.inr (.inr fn))))), ((h 8), .inr (0, [.ref (h 102), .ref (h 103), .int 0])), ((h 9), .inl ((cs 8), 8, .inr (.inr (.inr (.inr fp))))), ((h 10), .inr (8, [.ref (h 11), .int 0, .ref (h 12), .ref (h 13), .int 0, .ref (h 14), .int 0, .ref (h 15), .int 0, .ref (h 16), .int 0])), ((h 11), .inl ((cs 7), 4, .inr (.inr (.inr (.inr (fun _ => none)))))), ((h 12), .inl ((cs 9), 10, .inr (.inr (.inr (.inr (fun _ => none)))))), ((h 13), .inl ((cs 4), 100, .inr (.inr (.inr (.inr (fun _ => none)))))), ((h 14), .inl ((cs 2), 4, .inr (.inr (.inr (.inr (fun _ => none)))))), ((h 15), .inl ((cs 4), 3, .inr (.inr (.inr (.inr (fun _ => none)))))), ((h 16), .inl ((cs 0), 4, .inr (.inr (.inr (.inr f0)))))]) hD hS hA [0, 1, 2, 3, 4, 5, 6, 7, 8, 9, 10, 11, 12, 13, 14, 15, 16] rfl
  refine va_callv (va_runV (As := []) (rest := []) ⟨hx, hb, hml, hown, ht⟩ (k_X11_keepForUndo l _ D h cs fn hn fp f0 hp) (cwV 0 ht (zG_V zw_486 zw_487 zw_488 zw_404 zw_489) rfl rfl rfl (by decide +kernel) ⟨Nat.le_of_ble_eq_true rfl, Nat.le_of_ble_eq_true rfl⟩) (zM_V (va_recv hK hP (ci := 11) (q0 := 0) rfl rfl) hPc hKc hDc) rfl rfl hl.1 rfl (lv_room (Nat.le_of_ble_eq_true rfl)) dX11_variable_12 ⟨Nat.le_of_ble_eq_true rfl, Nat.le_of_ble_eq_true rfl⟩) hS (fun q _ h => hFc q h) hFc (fun u_3 t H1 locs ht0 hvm hw_3 hB hz1 hk1 hS => ?_)
  obtain ⟨hP1, hK1, hD1⟩ := hB
  rw [ht0] at hP1
  have hK1 := va_K.moved hvm.symm hK1
  obtain ⟨hP, hD⟩ := va_join (wr := [((h 43), .inl ((cs 13), 40, .inl zI0))]) (w1 := [((h 0), .inr (11, [.ref (h 1), .ref (h 9), .int 1, .int 1, .ref (h 20), .ref (h 37), .int 0, .ref (h 38), .ref (h 42), .ref (h 43), .ref (h 44), .ref (h 45), .ref (h 46), .ref (h 47), .ref (h 48)])), ((h 1), .inr (8, [.ref (h 2), .int 0, .ref (h 3), .ref (h 4), .int 0, .ref (h 5), .int 0, .ref (h 6), .int 0, .ref (h 7), .int 0])), ((h 2), .inl ((cs 7), 4, .inr (.inr (.inr (.inr (fun _ => none)))))), ((h 3), .inl ((cs 9), 10, .inr (.inr (.inr (.inr (fun _ => none)))))), ((h 4), .inl ((cs 4), 100, .inr (.inr (.inr (.inr (fun _ => none)))))), ((h 5), .inl ((cs 2), 4, .inr (.inr (.inr (.inr (fun _ => none)))))), ((h 6), .inl ((cs 4), 3, .inr (.inr (.inr (.inr (fun _ => none)))))), ((h 7), .inl ((cs 0), 4, .inr (.inr (.inr (.inr fn))))), ((h 8), .inr (0, [.ref (h 102), .ref (h 103), .int 0])), ((h 9), .inl ((cs 8), 8, .inr (.inr (.inr (.inr fp))))), ((h 10), .inr (8, [.ref (h 11), .int 0, .ref (h 12), .ref (h 13), .int 0, .ref (h 14), .int 0, .ref (h 15), .int 0, .ref (h 16), .int 0])), ((h 11), .inl ((cs 7), 4, .inr (.inr (.inr (.inr (fun _ => none)))))), ((h 12), .inl ((cs 9), 10, .inr (.inr (.inr (.inr (fun _ => none)))))), ((h 13), .inl ((cs 4), 100, .inr (.inr (.inr (.inr (fun _ => none)))))), ((h 14), .inl ((cs 2), 4, .inr (.inr (.inr (.inr (fun _ => none)))))), ((h 15), .inl ((cs 4), 3, .inr (.inr (.inr (.inr (fun _ => none)))))), ((h 16), .inl ((cs 0), 4, .inr (.inr (.inr (.inr (va_up (va_up (va_up (va_up f0 0 (some (h 8))) 1 (some (h 8))) 2 (some (h 8))) 3 (some (h 8))))))))]) hP hD [0, 1, 2, 3, 4, 5, 6, 7, 8, 9, 10, 11, 12, 13, 14, 15, 16] [17] rfl rfl (by decide) (by decide) hk1 hFc hP1 hD1
  generalize H1 = H at hP hS ⊢
  have hP : va_P D vwCl [((h 43), .inl ((cs 13), 40, .inl zI0)), ((h 0), .inr (11, [.ref (h 1), .ref (h 9), .int 1, .int 1, .ref (h 20), .ref (h 37), .int 0, .ref (h 38), .ref (h 42), .ref (h 43), .ref (h 44), .ref (h 45), .ref (h 46), .ref (h 47), .ref (h 48)])), ((h 1), .inr (8, [.ref (h 2), .int 0, .ref (h 3), .ref (h 4), .int 0, .ref (h 5), .int 0, .ref (h 6), .int 0, .ref (h 7), .int 0])), ((h 2), .inl ((cs 7), 4, .inr (.inr (.inr (.inr (fun _ => none)))))), ((h 3), .inl ((cs 9), 10, .inr (.inr (.inr (.inr (fun _ => none)))))), ((h 4), .inl ((cs 4), 100, .inr (.inr (.inr (.inr (fun _ => none)))))), ((h 5), .inl ((cs 2), 4, .inr (.inr (.inr (.inr (fun _ => none)))))), ((h 6), .inl ((cs 4), 3, .inr (.inr (.inr (.inr (fun _ => none)))))), ((h 7), .inl ((cs 0), 4, .inr (.inr (.inr (.inr fn))))), ((h 8), .inr (0, [.ref (h 102), .ref (h 103), .int 0])), ((h 9), .inl ((cs 8), 8, .inr (.inr (.inr (.inr fp))))), ((h 10), .inr (8, [.ref (h 11), .int 0, .ref (h 12), .ref (h 13), .int 0, .ref (h 14), .int 0, .ref (h 15), .int 0, .ref (h 16), .int 0])), ((h 11), .inl ((cs 7), 4, .inr (.inr (.inr (.inr (fun _ => none)))))), ((h 12), .inl ((cs 9), 10, .inr (.inr (.inr (.inr (fun _ => none)))))), ((h 13), .inl ((cs 4), 100, .inr (.inr (.inr (.inr (fun _ => none)))))), ((h 14), .inl ((cs 2), 4, .inr (.inr (.inr (.inr (fun _ => none)))))), ((h 15), .inl ((cs 4), 3, .inr (.inr (.inr (.inr (fun _ => none)))))), ((h 16), .inl ((cs 0), 4, .inr (.inr (.inr (.inr (va_up (va_up (va_up (va_up f0 0 (some (h 8))) 1 (some (h 8))) 2 (some (h 8))) 3 (some (h 8))))))))] H := hP
  have hD : va_D A [((h 43), .inl ((cs 13), 40, .inl zI0)), ((h 0), .inr (11, [.ref (h 1), .ref (h 9), .int 1, .int 1, .ref (h 20), .ref (h 37), .int 0, .ref (h 38), .ref (h 42), .ref (h 43), .ref (h 44), .ref (h 45), .ref (h 46), .ref (h 47), .ref (h 48)])), ((h 1), .inr (8, [.ref (h 2), .int 0, .ref (h 3), .ref (h 4), .int 0, .ref (h 5), .int 0, .ref (h 6), .int 0, .ref (h 7), .int 0])), ((h 2), .inl ((cs 7), 4, .inr (.inr (.inr (.inr (fun _ => none)))))), ((h 3), .inl ((cs 9), 10, .inr (.inr (.inr (.inr (fun _ => none)))))), ((h 4), .inl ((cs 4), 100, .inr (.inr (.inr (.inr (fun _ => none)))))), ((h 5), .inl ((cs 2), 4, .inr (.inr (.inr (.inr (fun _ => none)))))), ((h 6), .inl ((cs 4), 3, .inr (.inr (.inr (.inr (fun _ => none)))))), ((h 7), .inl ((cs 0), 4, .inr (.inr (.inr (.inr fn))))), ((h 8), .inr (0, [.ref (h 102), .ref (h 103), .int 0])), ((h 9), .inl ((cs 8), 8, .inr (.inr (.inr (.inr fp))))), ((h 10), .inr (8, [.ref (h 11), .int 0, .ref (h 12), .ref (h 13), .int 0, .ref (h 14), .int 0, .ref (h 15), .int 0, .ref (h 16), .int 0])), ((h 11), .inl ((cs 7), 4, .inr (.inr (.inr (.inr (fun _ => none)))))), ((h 12), .inl ((cs 9), 10, .inr (.inr (.inr (.inr (fun _ => none)))))), ((h 13), .inl ((cs 4), 100, .inr (.inr (.inr (.inr (fun _ => none)))))), ((h 14), .inl ((cs 2), 4, .inr (.inr (.inr (.inr (fun _ => none)))))), ((h 15), .inl ((cs 4), 3, .inr (.inr (.inr (.inr (fun _ => none)))))), ((h 16), .inl ((cs 0), 4, .inr (.inr (.inr (.inr (va_up (va_up (va_up (va_up f0 0 (some (h 8))) 1 (some (h 8))) 2 (some (h 8))) 3 (some (h 8))))))))] := hD
  refine lv_aload_n hx hb dX11_variable_15 rfl (lv_at hl 0 rfl) ?_
  refine va_get (D := D) (ci := 11) (v := .ref (h 43)) (C := RX11) (T := TX11) (N := 15) hx hb ht zinX11 hown hK hP 1 rfl rfl 9 (by decide) (ht _ zw_369) (fun _ h9 => h9) rfl dX11_variable_16 ?_
  refine lv_iconst (v := 0) hx hb dX11_variable_19 (by decide) ?_
  refine lv_iload_n hx hb dX11_variable_20 rfl (lv_at hl 2 rfl) ?_
  refine va_iast hx hb hK hP hD hS 0 6 rfl rfl (vp_in_iff.mpr (by decide)) dX11_variable_21 (fun H locs hP hD hS => ?_)
  have hP : va_P D vwCl [((h 43), .inl ((cs 13), 40, .inl (upd zI0 0 p1))), ((h 0), .inr (11, [.ref (h 1), .ref (h 9), .int 1, .int 1, .ref (h 20), .ref (h 37), .int 0, .ref (h 38), .ref (h 42), .ref (h 43), .ref (h 44), .ref (h 45), .ref (h 46), .ref (h 47), .ref (h 48)])), ((h 1), .inr (8, [.ref (h 2), .int 0, .ref (h 3), .ref (h 4), .int 0, .ref (h 5), .int 0, .ref (h 6), .int 0, .ref (h 7), .int 0])), ((h 2), .inl ((cs 7), 4, .inr (.inr (.inr (.inr (fun _ => none)))))), ((h 3), .inl ((cs 9), 10, .inr (.inr (.inr (.inr (fun _ => none)))))), ((h 4), .inl ((cs 4), 100, .inr (.inr (.inr (.inr (fun _ => none)))))), ((h 5), .inl ((cs 2), 4, .inr (.inr (.inr (.inr (fun _ => none)))))), ((h 6), .inl ((cs 4), 3, .inr (.inr (.inr (.inr (fun _ => none)))))), ((h 7), .inl ((cs 0), 4, .inr (.inr (.inr (.inr fn))))), ((h 8), .inr (0, [.ref (h 102), .ref (h 103), .int 0])), ((h 9), .inl ((cs 8), 8, .inr (.inr (.inr (.inr fp))))), ((h 10), .inr (8, [.ref (h 11), .int 0, .ref (h 12), .ref (h 13), .int 0, .ref (h 14), .int 0, .ref (h 15), .int 0, .ref (h 16), .int 0])), ((h 11), .inl ((cs 7), 4, .inr (.inr (.inr (.inr (fun _ => none)))))), ((h 12), .inl ((cs 9), 10, .inr (.inr (.inr (.inr (fun _ => none)))))), ((h 13), .inl ((cs 4), 100, .inr (.inr (.inr (.inr (fun _ => none)))))), ((h 14), .inl ((cs 2), 4, .inr (.inr (.inr (.inr (fun _ => none)))))), ((h 15), .inl ((cs 4), 3, .inr (.inr (.inr (.inr (fun _ => none)))))), ((h 16), .inl ((cs 0), 4, .inr (.inr (.inr (.inr (va_up (va_up (va_up (va_up f0 0 (some (h 8))) 1 (some (h 8))) 2 (some (h 8))) 3 (some (h 8))))))))] H := hP
  have hD : va_D A [((h 43), .inl ((cs 13), 40, .inl (upd zI0 0 p1))), ((h 0), .inr (11, [.ref (h 1), .ref (h 9), .int 1, .int 1, .ref (h 20), .ref (h 37), .int 0, .ref (h 38), .ref (h 42), .ref (h 43), .ref (h 44), .ref (h 45), .ref (h 46), .ref (h 47), .ref (h 48)])), ((h 1), .inr (8, [.ref (h 2), .int 0, .ref (h 3), .ref (h 4), .int 0, .ref (h 5), .int 0, .ref (h 6), .int 0, .ref (h 7), .int 0])), ((h 2), .inl ((cs 7), 4, .inr (.inr (.inr (.inr (fun _ => none)))))), ((h 3), .inl ((cs 9), 10, .inr (.inr (.inr (.inr (fun _ => none)))))), ((h 4), .inl ((cs 4), 100, .inr (.inr (.inr (.inr (fun _ => none)))))), ((h 5), .inl ((cs 2), 4, .inr (.inr (.inr (.inr (fun _ => none)))))), ((h 6), .inl ((cs 4), 3, .inr (.inr (.inr (.inr (fun _ => none)))))), ((h 7), .inl ((cs 0), 4, .inr (.inr (.inr (.inr fn))))), ((h 8), .inr (0, [.ref (h 102), .ref (h 103), .int 0])), ((h 9), .inl ((cs 8), 8, .inr (.inr (.inr (.inr fp))))), ((h 10), .inr (8, [.ref (h 11), .int 0, .ref (h 12), .ref (h 13), .int 0, .ref (h 14), .int 0, .ref (h 15), .int 0, .ref (h 16), .int 0])), ((h 11), .inl ((cs 7), 4, .inr (.inr (.inr (.inr (fun _ => none)))))), ((h 12), .inl ((cs 9), 10, .inr (.inr (.inr (.inr (fun _ => none)))))), ((h 13), .inl ((cs 4), 100, .inr (.inr (.inr (.inr (fun _ => none)))))), ((h 14), .inl ((cs 2), 4, .inr (.inr (.inr (.inr (fun _ => none)))))), ((h 15), .inl ((cs 4), 3, .inr (.inr (.inr (.inr (fun _ => none)))))), ((h 16), .inl ((cs 0), 4, .inr (.inr (.inr (.inr (va_up (va_up (va_up (va_up f0 0 (some (h 8))) 1 (some (h 8))) 2 (some (h 8))) 3 (some (h 8))))))))] := hD
  refine lv_aload_n hx hb dX11_variable_22 rfl (lv_at hl 0 rfl) ?_
  refine va_get (D := D) (ci := 11) (v := .ref (h 1)) (C := RX11) (T := TX11) (N := 15) hx hb ht zinX11 hown hK hP 1 rfl rfl 0 (by decide) (ht _ zw_353) (fun _ h9 => h9) rfl dX11_variable_23 ?_
  refine va_get (D := D) (ci := 8) (v := .ref (h 3)) (C := RX8) (T := TX8) (N := 11) hx hb ht zinX8 hown hK hP 2 rfl rfl 2 (by decide) (ht _ zw_391) (fun _ h9 => h9) rfl dX11_variable_26 ?_
  refine lv_iload_n hx hb dX11_variable_29 rfl (lv_at hl 1 rfl) ?_
  refine va_new (ci := 9) (fs := [.null, .null, .null, .int 0, .int 0, .int 0]) (C := RX9) (T := TX9) (N := 6) hx hb ht zinX9 tyX9 tyX9_ok hown (ht _ zw_536) (ht _ zw_257) (ht _ zw_258) hK hP hD hS hA rfl (fun j hj => by rcases (show j = 0 ∨ j = 1 ∨ j = 2 ∨ j = 3 ∨ j = 4 ∨ j = 5 by omega) with rfl | rfl | rfl | rfl | rfl | rfl <;> rfl) (Nat.le_of_ble_eq_true rfl) (Nat.le_of_ble_eq_true rfl) dX11_variable_30 (fun q_4 H hP hD hS => ?_)
  have hP : va_P D vwCl [((h 43), .inl ((cs 13), 40, .inl (upd zI0 0 p1))), ((h 0), .inr (11, [.ref (h 1), .ref (h 9), .int 1, .int 1, .ref (h 20), .ref (h 37), .int 0, .ref (h 38), .ref (h 42), .ref (h 43), .ref (h 44), .ref (h 45), .ref (h 46), .ref (h 47), .ref (h 48)])), ((h 1), .inr (8, [.ref (h 2), .int 0, .ref (h 3), .ref (h 4), .int 0, .ref (h 5), .int 0, .ref (h 6), .int 0, .ref (h 7), .int 0])), ((h 2), .inl ((cs 7), 4, .inr (.inr (.inr (.inr (fun _ => none)))))), ((h 3), .inl ((cs 9), 10, .inr (.inr (.inr (.inr (fun _ => none)))))), ((h 4), .inl ((cs 4), 100, .inr (.inr (.inr (.inr (fun _ => none)))))), ((h 5), .inl ((cs 2), 4, .inr (.inr (.inr (.inr (fun _ => none)))))), ((h 6), .inl ((cs 4), 3, .inr (.inr (.inr (.inr (fun _ => none)))))), ((h 7), .inl ((cs 0), 4, .inr (.inr (.inr (.inr fn))))), ((h 8), .inr (0, [.ref (h 102), .ref (h 103), .int 0])), ((h 9), .inl ((cs 8), 8, .inr (.inr (.inr (.inr fp))))), ((h 10), .inr (8, [.ref (h 11), .int 0, .ref (h 12), .ref (h 13), .int 0, .ref (h 14), .int 0, .ref (h 15), .int 0, .ref (h 16), .int 0])), ((h 11), .inl ((cs 7), 4, .inr (.inr (.inr (.inr (fun _ => none)))))), ((h 12), .inl ((cs 9), 10, .inr (.inr (.inr (.inr (fun _ => none)))))), ((h 13), .inl ((cs 4), 100, .inr (.inr (.inr (.inr (fun _ => none)))))), ((h 14), .inl ((cs 2), 4, .inr (.inr (.inr (.inr (fun _ => none)))))), ((h 15), .inl ((cs 4), 3, .inr (.inr (.inr (.inr (fun _ => none)))))), ((h 16), .inl ((cs 0), 4, .inr (.inr (.inr (.inr (va_up (va_up (va_up (va_up f0 0 (some (h 8))) 1 (some (h 8))) 2 (some (h 8))) 3 (some (h 8)))))))), (q_4, .inr (9, [.null, .null, .null, .int 0, .int 0, .int 0]))] H := hP
  have hD : va_D A [((h 43), .inl ((cs 13), 40, .inl (upd zI0 0 p1))), ((h 0), .inr (11, [.ref (h 1), .ref (h 9), .int 1, .int 1, .ref (h 20), .ref (h 37), .int 0, .ref (h 38), .ref (h 42), .ref (h 43), .ref (h 44), .ref (h 45), .ref (h 46), .ref (h 47), .ref (h 48)])), ((h 1), .inr (8, [.ref (h 2), .int 0, .ref (h 3), .ref (h 4), .int 0, .ref (h 5), .int 0, .ref (h 6), .int 0, .ref (h 7), .int 0])), ((h 2), .inl ((cs 7), 4, .inr (.inr (.inr (.inr (fun _ => none)))))), ((h 3), .inl ((cs 9), 10, .inr (.inr (.inr (.inr (fun _ => none)))))), ((h 4), .inl ((cs 4), 100, .inr (.inr (.inr (.inr (fun _ => none)))))), ((h 5), .inl ((cs 2), 4, .inr (.inr (.inr (.inr (fun _ => none)))))), ((h 6), .inl ((cs 4), 3, .inr (.inr (.inr (.inr (fun _ => none)))))), ((h 7), .inl ((cs 0), 4, .inr (.inr (.inr (.inr fn))))), ((h 8), .inr (0, [.ref (h 102), .ref (h 103), .int 0])), ((h 9), .inl ((cs 8), 8, .inr (.inr (.inr (.inr fp))))), ((h 10), .inr (8, [.ref (h 11), .int 0, .ref (h 12), .ref (h 13), .int 0, .ref (h 14), .int 0, .ref (h 15), .int 0, .ref (h 16), .int 0])), ((h 11), .inl ((cs 7), 4, .inr (.inr (.inr (.inr (fun _ => none)))))), ((h 12), .inl ((cs 9), 10, .inr (.inr (.inr (.inr (fun _ => none)))))), ((h 13), .inl ((cs 4), 100, .inr (.inr (.inr (.inr (fun _ => none)))))), ((h 14), .inl ((cs 2), 4, .inr (.inr (.inr (.inr (fun _ => none)))))), ((h 15), .inl ((cs 4), 3, .inr (.inr (.inr (.inr (fun _ => none)))))), ((h 16), .inl ((cs 0), 4, .inr (.inr (.inr (.inr (va_up (va_up (va_up (va_up f0 0 (some (h 8))) 1 (some (h 8))) 2 (some (h 8))) 3 (some (h 8)))))))), (q_4, .inr (9, [.null, .null, .null, .int 0, .int 0, .int 0]))] := hD
  refine W.widen (k := 3) (n := 18) (Nat.le_of_ble_eq_true rfl) (Nat.le_of_ble_eq_true rfl) ?_
  refine lv_dup hx hb dX11_variable_33 rfl ?_
  refine lv_aload_n hx hb dX11_variable_34 rfl (lv_at hl 0 rfl) ?_
  refine va_get (D := D) (ci := 11) (v := .ref (h 43)) (C := RX11) (T := TX11) (N := 15) hx hb ht zinX11 hown hK hP 1 rfl rfl 9 (by decide) (ht _ zw_369) (fun _ h9 => h9) rfl dX11_variable_35 ?_
  refine lv_iconst (v := 0) hx hb dX11_variable_38 (by decide) ?_
  refine lv_iconst (v := 1) hx hb dX11_variable_39 (by decide) ?_
  refine lv_aload_n hx hb dX11_variable_40 rfl (lv_at hl 0 rfl) ?_
  refine va_get (D := D) (ci := 11) (v := .ref (h 1)) (C := RX11) (T := TX11) (N := 15) hx hb ht zinX11 hown hK hP 1 rfl rfl 0 (by decide) (ht _ zw_353) (fun _ h9 => h9) rfl dX11_variable_41 ?_
  refine va_get (D := D) (ci := 8) (v := .ref (h 2)) (C := RX8) (T := TX8) (N := 11) hx hb ht zinX8 hown hK hP 2 rfl rfl 0 (by decide) (ht _ zw_490) (fun _ h9 => h9) rfl dX11_variable_44 ?_
  have hPc := hP.sub (ws' := [(q_4, .inr (9, [.null, .null, .null, .int 0, .int 0, .int 0])), ((h 43), .inl ((cs 13), 40, .inl (upd zI0 0 p1)))]) [18, 0] rfl
  have hDc := hD.sub (ws' := [(q_4, .inr (9, [.null, .null, .null, .int 0, .int 0, .int 0])), ((h 43), .inl ((cs 13), 40, .inl (upd zI0 0 p1)))]) [18, 0] (by decide) rfl
  have hKc := hK.sub (tys' := [((cs 13), .int)]) [6] rfl
  have hFc := va_free (wc := [(q_4, .inr (9, [.null, .null, .null, .int 0, .int 0, .int 0])), ((h 43), .inl ((cs 13), 40, .inl (upd zI0 0 p1)))]) hD hS hA [18, 0] rfl
  refine va_callv (va_runI (As := [.ref (h 43), .int 0, .int 1, .ref (h 2)]) (rest := [.ref q_4, .int p0, .ref (h 3)]) ⟨hx, hb, hml, hown, ht⟩ (k_X9_init_ l _ D q_4 (h 43) (cs 13) zI0 p1 hw_2 (h 2)) (cwI 4 ht (zG zw_537) rfl rfl rfl (ht _ zw_258) (ht _ zw_538) (ht _ zw_539) rfl (by decide +kernel) ⟨Nat.le_of_ble_eq_true rfl, Nat.le_of_ble_eq_true rfl⟩) (zXw_I (fun _ _ => zTab.warm) hEx.1 hPc hKc hDc) rfl rfl hl.1 rfl (lv_room (Nat.le_of_ble_eq_true rfl)) dX11_variable_47 ⟨Nat.le_of_ble_eq_true rfl, Nat.le_of_ble_eq_true rfl⟩) hS (fun q _ h => hFc q h) hFc (fun u_5 t H1 locs ht0 hvm hw_5 hB hz1 hk1 hS => ?_)
  obtain ⟨qa_5, qb_5, qc_5, hB⟩ := hB
  obtain ⟨hP1, hK1, hD1⟩ := hB
  rw [ht0] at hP1
  have hK1 := va_K.moved hvm.symm hK1
  obtain ⟨hP, hD⟩ := va_join (wr := [((h 0), .inr (11, [.ref (h 1), .ref (h 9), .int 1, .int 1, .ref (h 20), .ref (h 37), .int 0, .ref (h 38), .ref (h 42), .ref (h 43), .ref (h 44), .ref (h 45), .ref (h 46), .ref (h 47), .ref (h 48)])), ((h 1), .inr (8, [.ref (h 2), .int 0, .ref (h 3), .ref (h 4), .int 0, .ref (h 5), .int 0, .ref (h 6), .int 0, .ref (h 7), .int 0])), ((h 2), .inl ((cs 7), 4, .inr (.inr (.inr (.inr (fun _ => none)))))), ((h 3), .inl ((cs 9), 10, .inr (.inr (.inr (.inr (fun _ => none)))))), ((h 4), .inl ((cs 4), 100, .inr (.inr (.inr (.inr (fun _ => none)))))), ((h 5), .inl ((cs 2), 4, .inr (.inr (.inr (.inr (fun _ => none)))))), ((h 6), .inl ((cs 4), 3, .inr (.inr (.inr (.inr (fun _ => none)))))), ((h 7), .inl ((cs 0), 4, .inr (.inr (.inr (.inr fn))))), ((h 8), .inr (0, [.ref (h 102), .ref (h 103), .int 0])), ((h 9), .inl ((cs 8), 8, .inr (.inr (.inr (.inr fp))))), ((h 10), .inr (8, [.ref (h 11), .int 0, .ref (h 12), .ref (h 13), .int 0, .ref (h 14), .int 0, .ref (h 15), .int 0, .ref (h 16), .int 0])), ((h 11), .inl ((cs 7), 4, .inr (.inr (.inr (.inr (fun _ => none)))))), ((h 12), .inl ((cs 9), 10, .inr (.inr (.inr (.inr (fun _ => none)))))), ((h 13), .inl ((cs 4), 100, .inr (.inr (.inr (.inr (fun _ => none)))))), ((h 14), .inl ((cs 2), 4, .inr (.inr (.inr (.inr (fun _ => none)))))), ((h 15), .inl ((cs 4), 3, .inr (.inr (.inr (.inr (fun _ => none)))))), ((h 16), .inl ((cs 0), 4, .inr (.inr (.inr (.inr (va_up (va_up (va_up (va_up f0 0 (some (h 8))) 1 (some (h 8))) 2 (some (h 8))) 3 (some (h 8))))))))]) (w1 := [(q_4, .inr (9, [.ref qa_5, .ref qb_5, .ref qc_5, .int 1, .int u_5, .int 0])), ((h 43), .inl ((cs 13), 40, .inl (upd zI0 0 p1)))]) hP hD [18, 0] [1, 2, 3, 4, 5, 6, 7, 8, 9, 10, 11, 12, 13, 14, 15, 16, 17] rfl rfl (by decide) (by decide) hk1 hFc hP1 hD1
  generalize H1 = H at hP hS ⊢
  have hP : va_P D vwCl [((h 0), .inr (11, [.ref (h 1), .ref (h 9), .int 1, .int 1, .ref (h 20), .ref (h 37), .int 0, .ref (h 38), .ref (h 42), .ref (h 43), .ref (h 44), .ref (h 45), .ref (h 46), .ref (h 47), .ref (h 48)])), ((h 1), .inr (8, [.ref (h 2), .int 0, .ref (h 3), .ref (h 4), .int 0, .ref (h 5), .int 0, .ref (h 6), .int 0, .ref (h 7), .int 0])), ((h 2), .inl ((cs 7), 4, .inr (.inr (.inr (.inr (fun _ => none)))))), ((h 3), .inl ((cs 9), 10, .inr (.inr (.inr (.inr (fun _ => none)))))), ((h 4), .inl ((cs 4), 100, .inr (.inr (.inr (.inr (fun _ => none)))))), ((h 5), .inl ((cs 2), 4, .inr (.inr (.inr (.inr (fun _ => none)))))), ((h 6), .inl ((cs 4), 3, .inr (.inr (.inr (.inr (fun _ => none)))))), ((h 7), .inl ((cs 0), 4, .inr (.inr (.inr (.inr fn))))), ((h 8), .inr (0, [.ref (h 102), .ref (h 103), .int 0])), ((h 9), .inl ((cs 8), 8, .inr (.inr (.inr (.inr fp))))), ((h 10), .inr (8, [.ref (h 11), .int 0, .ref (h 12), .ref (h 13), .int 0, .ref (h 14), .int 0, .ref (h 15), .int 0, .ref (h 16), .int 0])), ((h 11), .inl ((cs 7), 4, .inr (.inr (.inr (.inr (fun _ => none)))))), ((h 12), .inl ((cs 9), 10, .inr (.inr (.inr (.inr (fun _ => none)))))), ((h 13), .inl ((cs 4), 100, .inr (.inr (.inr (.inr (fun _ => none)))))), ((h 14), .inl ((cs 2), 4, .inr (.inr (.inr (.inr (fun _ => none)))))), ((h 15), .inl ((cs 4), 3, .inr (.inr (.inr (.inr (fun _ => none)))))), ((h 16), .inl ((cs 0), 4, .inr (.inr (.inr (.inr (va_up (va_up (va_up (va_up f0 0 (some (h 8))) 1 (some (h 8))) 2 (some (h 8))) 3 (some (h 8)))))))), (q_4, .inr (9, [.ref qa_5, .ref qb_5, .ref qc_5, .int 1, .int u_5, .int 0])), ((h 43), .inl ((cs 13), 40, .inl (upd zI0 0 p1)))] H := hP
  have hD : va_D A [((h 0), .inr (11, [.ref (h 1), .ref (h 9), .int 1, .int 1, .ref (h 20), .ref (h 37), .int 0, .ref (h 38), .ref (h 42), .ref (h 43), .ref (h 44), .ref (h 45), .ref (h 46), .ref (h 47), .ref (h 48)])), ((h 1), .inr (8, [.ref (h 2), .int 0, .ref (h 3), .ref (h 4), .int 0, .ref (h 5), .int 0, .ref (h 6), .int 0, .ref (h 7), .int 0])), ((h 2), .inl ((cs 7), 4, .inr (.inr (.inr (.inr (fun _ => none)))))), ((h 3), .inl ((cs 9), 10, .inr (.inr (.inr (.inr (fun _ => none)))))), ((h 4), .inl ((cs 4), 100, .inr (.inr (.inr (.inr (fun _ => none)))))), ((h 5), .inl ((cs 2), 4, .inr (.inr (.inr (.inr (fun _ => none)))))), ((h 6), .inl ((cs 4), 3, .inr (.inr (.inr (.inr (fun _ => none)))))), ((h 7), .inl ((cs 0), 4, .inr (.inr (.inr (.inr fn))))), ((h 8), .inr (0, [.ref (h 102), .ref (h 103), .int 0])), ((h 9), .inl ((cs 8), 8, .inr (.inr (.inr (.inr fp))))), ((h 10), .inr (8, [.ref (h 11), .int 0, .ref (h 12), .ref (h 13), .int 0, .ref (h 14), .int 0, .ref (h 15), .int 0, .ref (h 16), .int 0])), ((h 11), .inl ((cs 7), 4, .inr (.inr (.inr (.inr (fun _ => none)))))), ((h 12), .inl ((cs 9), 10, .inr (.inr (.inr (.inr (fun _ => none)))))), ((h 13), .inl ((cs 4), 100, .inr (.inr (.inr (.inr (fun _ => none)))))), ((h 14), .inl ((cs 2), 4, .inr (.inr (.inr (.inr (fun _ => none)))))), ((h 15), .inl ((cs 4), 3, .inr (.inr (.inr (.inr (fun _ => none)))))), ((h 16), .inl ((cs 0), 4, .inr (.inr (.inr (.inr (va_up (va_up (va_up (va_up f0 0 (some (h 8))) 1 (some (h 8))) 2 (some (h 8))) 3 (some (h 8)))))))), (q_4, .inr (9, [.ref qa_5, .ref qb_5, .ref qc_5, .int 1, .int u_5, .int 0])), ((h 43), .inl ((cs 13), 40, .inl (upd zI0 0 p1)))] := hD
  refine W.widen (k := 6) (n := 21) (Nat.le_of_ble_eq_true rfl) (Nat.le_of_ble_eq_true rfl) ?_
  refine va_astq (r := (RX9, TX9, 6)) hx hb hK hP hD hS 3 1 17 9 rfl rfl rfl rfl (vp_in_iff.mpr ⟨hw_1.1, by have hq := hw_1.2; omega⟩) dX11_variable_50 (fun H locs hP hD hS => ?_)
  have hP : va_P D vwCl [((h 0), .inr (11, [.ref (h 1), .ref (h 9), .int 1, .int 1, .ref (h 20), .ref (h 37), .int 0, .ref (h 38), .ref (h 42), .ref (h 43), .ref (h 44), .ref (h 45), .ref (h 46), .ref (h 47), .ref (h 48)])), ((h 1), .inr (8, [.ref (h 2), .int 0, .ref (h 3), .ref (h 4), .int 0, .ref (h 5), .int 0, .ref (h 6), .int 0, .ref (h 7), .int 0])), ((h 2), .inl ((cs 7), 4, .inr (.inr (.inr (.inr (fun _ => none)))))), ((h 3), .inl ((cs 9), 10, .inr (.inr (.inr (.inr (va_up (fun _ => none) p0.toNatClampNeg (some q_4))))))), ((h 4), .inl ((cs 4), 100, .inr (.inr (.inr (.inr (fun _ => none)))))), ((h 5), .inl ((cs 2), 4, .inr (.inr (.inr (.inr (fun _ => none)))))), ((h 6), .inl ((cs 4), 3, .inr (.inr (.inr (.inr (fun _ => none)))))), ((h 7), .inl ((cs 0), 4, .inr (.inr (.inr (.inr fn))))), ((h 8), .inr (0, [.ref (h 102), .ref (h 103), .int 0])), ((h 9), .inl ((cs 8), 8, .inr (.inr (.inr (.inr fp))))), ((h 10), .inr (8, [.ref (h 11), .int 0, .ref (h 12), .ref (h 13), .int 0, .ref (h 14), .int 0, .ref (h 15), .int 0, .ref (h 16), .int 0])), ((h 11), .inl ((cs 7), 4, .inr (.inr (.inr (.inr (fun _ => none)))))), ((h 12), .inl ((cs 9), 10, .inr (.inr (.inr (.inr (fun _ => none)))))), ((h 13), .inl ((cs 4), 100, .inr (.inr (.inr (.inr (fun _ => none)))))), ((h 14), .inl ((cs 2), 4, .inr (.inr (.inr (.inr (fun _ => none)))))), ((h 15), .inl ((cs 4), 3, .inr (.inr (.inr (.inr (fun _ => none)))))), ((h 16), .inl ((cs 0), 4, .inr (.inr (.inr (.inr (va_up (va_up (va_up (va_up f0 0 (some (h 8))) 1 (some (h 8))) 2 (some (h 8))) 3 (some (h 8)))))))), (q_4, .inr (9, [.ref qa_5, .ref qb_5, .ref qc_5, .int 1, .int u_5, .int 0])), ((h 43), .inl ((cs 13), 40, .inl (upd zI0 0 p1)))] H := hP
  have hD : va_D A [((h 0), .inr (11, [.ref (h 1), .ref (h 9), .int 1, .int 1, .ref (h 20), .ref (h 37), .int 0, .ref (h 38), .ref (h 42), .ref (h 43), .ref (h 44), .ref (h 45), .ref (h 46), .ref (h 47), .ref (h 48)])), ((h 1), .inr (8, [.ref (h 2), .int 0, .ref (h 3), .ref (h 4), .int 0, .ref (h 5), .int 0, .ref (h 6), .int 0, .ref (h 7), .int 0])), ((h 2), .inl ((cs 7), 4, .inr (.inr (.inr (.inr (fun _ => none)))))), ((h 3), .inl ((cs 9), 10, .inr (.inr (.inr (.inr (va_up (fun _ => none) p0.toNatClampNeg (some q_4))))))), ((h 4), .inl ((cs 4), 100, .inr (.inr (.inr (.inr (fun _ => none)))))), ((h 5), .inl ((cs 2), 4, .inr (.inr (.inr (.inr (fun _ => none)))))), ((h 6), .inl ((cs 4), 3, .inr (.inr (.inr (.inr (fun _ => none)))))), ((h 7), .inl ((cs 0), 4, .inr (.inr (.inr (.inr fn))))), ((h 8), .inr (0, [.ref (h 102), .ref (h 103), .int 0])), ((h 9), .inl ((cs 8), 8, .inr (.inr (.inr (.inr fp))))), ((h 10), .inr (8, [.ref (h 11), .int 0, .ref (h 12), .ref (h 13), .int 0, .ref (h 14), .int 0, .ref (h 15), .int 0, .ref (h 16), .int 0])), ((h 11), .inl ((cs 7), 4, .inr (.inr (.inr (.inr (fun _ => none)))))), ((h 12), .inl ((cs 9), 10, .inr (.inr (.inr (.inr (fun _ => none)))))), ((h 13), .inl ((cs 4), 100, .inr (.inr (.inr (.inr (fun _ => none)))))), ((h 14), .inl ((cs 2), 4, .inr (.inr (.inr (.inr (fun _ => none)))))), ((h 15), .inl ((cs 4), 3, .inr (.inr (.inr (.inr (fun _ => none)))))), ((h 16), .inl ((cs 0), 4, .inr (.inr (.inr (.inr (va_up (va_up (va_up (va_up f0 0 (some (h 8))) 1 (some (h 8))) 2 (some (h 8))) 3 (some (h 8)))))))), (q_4, .inr (9, [.ref qa_5, .ref qb_5, .ref qc_5, .int 1, .int u_5, .int 0])), ((h 43), .inl ((cs 13), 40, .inl (upd zI0 0 p1)))] := hD
  refine lv_aload_n hx hb dX11_variable_51 rfl (lv_at hl 0 rfl) ?_
  refine va_get (D := D) (ci := 11) (v := .ref (h 1)) (C := RX11) (T := TX11) (N := 15) hx hb ht zinX11 hown hK hP 0 rfl rfl 0 (by decide) (ht _ zw_353) (fun _ h9 => h9) rfl dX11_variable_52 ?_
  refine vp_callSi (va_runV (As := []) (rest := []) ⟨hx, hb, hml, hown, ht⟩ (k_X8_countFilled l D h cs q_4 p0 ⟨by omega, by omega⟩) (cwV 0 ht (zG_V zw_540 zw_541 zw_542 zw_334 zw_543) rfl rfl rfl (by decide +kernel) ⟨Nat.le_of_ble_eq_true rfl, Nat.le_of_ble_eq_true rfl⟩) (zR_V (va_recv hK hP (ci := 8) (q0 := 1) rfl rfl) (hP.sub (ws' := [((h 1), .inr (8, [.ref (h 2), .int 0, .ref (h 3), .ref (h 4), .int 0, .ref (h 5), .int 0, .ref (h 6), .int 0, .ref (h 7), .int 0])), ((h 3), .inl ((cs 9), 10, .inr (.inr (.inr (.inr (va_up (fun _ => none) p0.toNatClampNeg (some q_4)))))))]) [1, 3] rfl) (hK.sub (tys' := [((cs 9), .object RX9)]) [1] rfl)) rfl rfl hl.1 rfl (lv_room (Nat.le_of_ble_eq_true rfl)) dX11_variable_55 ⟨Nat.le_of_ble_eq_true rfl, Nat.le_of_ble_eq_true rfl⟩).run (fun r_6 hw_6 => ?_)
  obtain rfl : r_6 = 1 := hw_6
  have hP9 := hP.sub (ws' := []) [] rfl
  have hD9 := hD.sub (ws' := []) [] (by decide) rfl
  have hK9 := hK.sub (tys' := []) [] rfl
  refine W.widen (k := 6) (n := 21) (Nat.le_of_ble_eq_true rfl) (Nat.le_of_ble_eq_true rfl) ?_
  refine vx_ret ?_
  exact W.iret (v := 1) hx hb hr (fun t ht0 hW => ⟨⟨1, (), rfl, (show zS_variable p0 p1 0 1 from (.inr (.inr ⟨rfl, by omega, rfl⟩))), (zE_of hP9 hK9 hD9 ht0 hW)⟩, hS.F ht0⟩) hS.2.2 dX11_variable_58
