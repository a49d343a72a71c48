abbrev cX12_checksum : ByteArray := prog_14_method_132_code
def yX12_checksum : MethodName := ⟨RX12, "checksum", "()J"⟩
theorem dX12_checksum_0 : decode cX12_checksum 0 = .ok (.aload_n 0, 1) := by decide +kernel
theorem dX12_checksum_1 : decode cX12_checksum 1 = .ok (.iconst 0, 1) := by decide +kernel
theorem dX12_checksum_2 : decode cX12_checksum 2 = .ok (.putfield 52, 3) := by decide +kernel
theorem zw_116 : Cond.constantLong RX12 387 7 ∈ zT := zT_of 2090 (by decide +kernel) (by decide +kernel)
theorem dX12_checksum_5 : decode cX12_checksum 5 = .ok (.ldc2_w 387, 3) := by decide +kernel
theorem dX12_checksum_8 : decode cX12_checksum 8 = .ok (.lstore_n 1, 1) := by decide +kernel
theorem dX12_checksum_9 : decode cX12_checksum 9 = .ok (.iconst 0, 1) := by decide +kernel
theorem dX12_checksum_10 : decode cX12_checksum 10 = .ok (.istore_n 3, 1) := by decide +kernel
theorem dX12_checksum_11 : decode cX12_checksum 11 = .ok (.iload_n 3, 1) := by decide +kernel
theorem dX12_checksum_12 : decode cX12_checksum 12 = .ok (.bipush 100, 2) := by decide +kernel
theorem dX12_checksum_14 : decode cX12_checksum 14 = .ok (.if_icmp .ge 63, 3) := by decide +kernel
theorem dX12_checksum_77 : decode cX12_checksum 77 = .ok (.lload_n 1, 1) := by decide +kernel
theorem dX12_checksum_78 : decode cX12_checksum 78 = .ok (.lreturn, 1) := by decide +kernel
theorem dX12_checksum_17 : decode cX12_checksum 17 = .ok (.aload_n 0, 1) := by decide +kernel
theorem dX12_checksum_18 : decode cX12_checksum 18 = .ok (.iload_n 3, 1) := by decide +kernel
theorem dX12_checksum_19 : decode cX12_checksum 19 = .ok (.invokevirtual 116, 3) := by decide +kernel
theorem dX12_checksum_22 : decode cX12_checksum 22 = .ok (.istore 4, 2) := by decide +kernel
theorem dX12_checksum_24 : decode cX12_checksum 24 = .ok (.iload 4, 2) := by decide +kernel
theorem dX12_checksum_26 : decode cX12_checksum 26 = .ok (.iconst (-1), 1) := by decide +kernel
theorem dX12_checksum_27 : decode cX12_checksum 27 = .ok (.if_icmp .eq 44, 3) := by decide +kernel
theorem dX12_checksum_71 : decode cX12_checksum 71 = .ok (.iinc 3 1, 3) := by decide +kernel
theorem dX12_checksum_74 : decode cX12_checksum 74 = .ok (.goto (-63), 3) := by decide +kernel
abbrev cX12_provedShare : ByteArray := prog_14_method_131_code
def yX12_provedShare : MethodName := ⟨RX12, "provedShare", "()F"⟩
theorem dX12_provedShare_0 : decode cX12_provedShare 0 = .ok (.aload_n 0, 1) := by decide +kernel
theorem dX12_provedShare_1 : decode cX12_provedShare 1 = .ok (.iconst 0, 1) := by decide +kernel
theorem dX12_provedShare_2 : decode cX12_provedShare 2 = .ok (.putfield 52, 3) := by decide +kernel
theorem dX12_provedShare_5 : decode cX12_provedShare 5 = .ok (.iconst 0, 1) := by decide +kernel
theorem dX12_provedShare_6 : decode cX12_provedShare 6 = .ok (.istore_n 1, 1) := by decide +kernel
theorem dX12_provedShare_7 : decode cX12_provedShare 7 = .ok (.iconst 0, 1) := by decide +kernel
theorem dX12_provedShare_8 : decode cX12_provedShare 8 = .ok (.istore_n 2, 1) := by decide +kernel
theorem dX12_provedShare_9 : decode cX12_provedShare 9 = .ok (.iload_n 2, 1) := by decide +kernel
theorem dX12_provedShare_10 : decode cX12_provedShare 10 = .ok (.aload_n 0, 1) := by decide +kernel
theorem dX12_provedShare_11 : decode cX12_provedShare 11 = .ok (.invokevirtual 112, 3) := by decide +kernel
theorem dX12_provedShare_14 : decode cX12_provedShare 14 = .ok (.if_icmp .ge 28, 3) := by decide +kernel
theorem dX12_provedShare_42 : decode cX12_provedShare 42 = .ok (.aload_n 0, 1) := by decide +kernel
theorem dX12_provedShare_43 : decode cX12_provedShare 43 = .ok (.invokevirtual 112, 3) := by decide +kernel
theorem dX12_provedShare_46 : decode cX12_provedShare 46 = .ok (.ifCond .ne 7, 3) := by decide +kernel
theorem dX12_provedShare_49 : decode cX12_provedShare 49 = .ok (.fconst 0, 1) := by decide +kernel
theorem dX12_provedShare_50 : decode cX12_provedShare 50 = .ok (.goto 11, 3) := by decide +kernel
theorem dX12_provedShare_61 : decode cX12_provedShare 61 = .ok (.freturn, 1) := by decide +kernel
abbrev cX12_next : ByteArray := prog_14_method_96_code
def yX12_next : MethodName := ⟨RX12, "next", "()I"⟩
theorem dX12_next_0 : decode cX12_next 0 = .ok (.aload_n 0, 1) := by decide +kernel
theorem zw_117 : Cond.fieldLink RX12 331 RX12 "at" "I" ∈ zT := zT_of 1496 (by decide +kernel) (by decide +kernel)
theorem dX12_next_1 : decode cX12_next 1 = .ok (.getfield 331, 3) := by decide +kernel
theorem dX12_next_4 : decode cX12_next 4 = .ok (.aload_n 0, 1) := by decide +kernel
theorem dX12_next_5 : decode cX12_next 5 = .ok (.getfield 328, 3) := by decide +kernel
theorem dX12_next_8 : decode cX12_next 8 = .ok (.if_icmp .ge 30, 3) := by decide +kernel
theorem dX12_next_38 : decode cX12_next 38 = .ok (.aload_n 0, 1) := by decide +kernel
theorem dX12_next_39 : decode cX12_next 39 = .ok (.getfield 331, 3) := by decide +kernel
theorem dX12_next_42 : decode cX12_next 42 = .ok (.aload_n 0, 1) := by decide +kernel
theorem dX12_next_43 : decode cX12_next 43 = .ok (.getfield 328, 3) := by decide +kernel
theorem dX12_next_46 : decode cX12_next 46 = .ok (.if_icmp .ge 15, 3) := by decide +kernel
theorem dX12_next_61 : decode cX12_next 61 = .ok (.iconst (-1), 1) := by decide +kernel
theorem dX12_next_62 : decode cX12_next 62 = .ok (.ireturn, 1) := by decide +kernel
abbrev cX12_readsOne : ByteArray := prog_14_method_98_code
def yX12_readsOne : MethodName := ⟨RX12, "readsOne", "()V"⟩
theorem dX12_readsOne_0 : decode cX12_readsOne 0 = .ok (.aload_n 0, 1) := by decide +kernel
theorem zw_118 : Cond.fieldLink RX12 234 RX12 "error" "I" ∈ zT := zT_of 1497 (by decide +kernel) (by decide +kernel)
theorem dX12_readsOne_1 : decode cX12_readsOne 1 = .ok (.getfield 234, 3) := by decide +kernel
theorem dX12_readsOne_4 : decode cX12_readsOne 4 = .ok (.iconst (-1), 1) := by decide +kernel
theorem dX12_readsOne_5 : decode cX12_readsOne 5 = .ok (.if_icmp .eq 4, 3) := by decide +kernel
theorem dX12_readsOne_9 : decode cX12_readsOne 9 = .ok (.aload_n 0, 1) := by decide +kernel
theorem zw_119 : Cond.methodLink RX12 334 yX12_next ∈ zT := zT_of 1627 (by decide +kernel) (by decide +kernel)
theorem zw_120 : Cond.instanceMethod yX12_next ∈ zT := zT_of 1629 (by decide +kernel) (by decide +kernel)
theorem zw_121 : Cond.selects RX12 yX12_next yX12_next ∈ zT := zT_ofS 45 (by decide +kernel) (by decide +kernel)
theorem zw_122 : Cond.code yX12_next cX12_next 1 (some .int) ∈ zT := zT_of 1630 (by decide +kernel) (by decide +kernel)
theorem dX12_readsOne_10 : decode cX12_readsOne 10 = .ok (.invokevirtual 334, 3) := by decide +kernel
theorem dX12_readsOne_13 : decode cX12_readsOne 13 = .ok (.istore_n 1, 1) := by decide +kernel
theorem dX12_readsOne_14 : decode cX12_readsOne 14 = .ok (.iload_n 1, 1) := by decide +kernel
theorem dX12_readsOne_15 : decode cX12_readsOne 15 = .ok (.bipush 97, 2) := by decide +kernel
theorem dX12_readsOne_17 : decode cX12_readsOne 17 = .ok (.bipush 100, 2) := by decide +kernel
theorem dX12_readsOne_19 : decode cX12_readsOne 19 = .ok (.invokestatic 60, 3) := by decide +kernel
theorem dX12_readsOne_22 : decode cX12_readsOne 22 = .ok (.ifCond .eq 10, 3) := by decide +kernel
theorem dX12_readsOne_32 : decode cX12_readsOne 32 = .ok (.iload_n 1, 1) := by decide +kernel
theorem dX12_readsOne_33 : decode cX12_readsOne 33 = .ok (.bipush 112, 2) := by decide +kernel
theorem dX12_readsOne_35 : decode cX12_readsOne 35 = .ok (.bipush 115, 2) := by decide +kernel
theorem dX12_readsOne_37 : decode cX12_readsOne 37 = .ok (.invokestatic 60, 3) := by decide +kernel
theorem dX12_readsOne_40 : decode cX12_readsOne 40 = .ok (.ifCond .eq 25, 3) := by decide +kernel
theorem dX12_readsOne_65 : decode cX12_readsOne 65 = .ok (.iconst (-1), 1) := by decide +kernel
theorem dX12_readsOne_66 : decode cX12_readsOne 66 = .ok (.istore_n 2, 1) := by decide +kernel
theorem dX12_readsOne_67 : decode cX12_readsOne 67 = .ok (.iload_n 2, 1) := by decide +kernel
theorem dX12_readsOne_68 : decode cX12_readsOne 68 = .ok (.iconst (-1), 1) := by decide +kernel
theorem dX12_readsOne_69 : decode cX12_readsOne 69 = .ok (.if_icmp .eq 14, 3) := by decide +kernel
theorem dX12_readsOne_83 : decode cX12_readsOne 83 = .ok (.aload_n 0, 1) := by decide +kernel
theorem dX12_readsOne_84 : decode cX12_readsOne 84 = .ok (.aload_n 0, 1) := by decide +kernel
theorem dX12_readsOne_85 : decode cX12_readsOne 85 = .ok (.getfield 331, 3) := by decide +kernel
theorem dX12_readsOne_88 : decode cX12_readsOne 88 = .ok (.putfield 234, 3) := by decide +kernel
theorem dX12_readsOne_91 : decode cX12_readsOne 91 = .ok (.return_, 1) := by decide +kernel
abbrev cX12_reads : ByteArray := prog_14_method_99_code
def yX12_reads : MethodName := ⟨RX12, "reads", "()V"⟩
theorem dX12_reads_0 : decode cX12_reads 0 = .ok (.aload_n 0, 1) := by decide +kernel
theorem dX12_reads_1 : decode cX12_reads 1 = .ok (.iconst 0, 1) := by decide +kernel
theorem dX12_reads_2 : decode cX12_reads 2 = .ok (.putfield 331, 3) := by decide +kernel
theorem dX12_reads_5 : decode cX12_reads 5 = .ok (.aload_n 0, 1) := by decide +kernel
theorem dX12_reads_6 : decode cX12_reads 6 = .ok (.iconst (-1), 1) := by decide +kernel
theorem dX12_reads_7 : decode cX12_reads 7 = .ok (.putfield 234, 3) := by decide +kernel
theorem dX12_reads_10 : decode cX12_reads 10 = .ok (.aload_n 0, 1) := by decide +kernel
theorem zw_123 : Cond.fieldLink RX12 28 RX12 "readTerm" "[I" ∈ zT := zT_of 1498 (by decide +kernel) (by decide +kernel)
theorem dX12_reads_11 : decode cX12_reads 11 = .ok (.getfield 28, 3) := by decide +kernel
theorem dX12_reads_14 : decode cX12_reads 14 = .ok (.iconst 0, 1) := by decide +kernel
theorem dX12_reads_15 : decode cX12_reads 15 = .ok (.iconst 0, 1) := by decide +kernel
theorem dX12_reads_16 : decode cX12_reads 16 = .ok (.iastore, 1) := by decide +kernel
theorem dX12_reads_17 : decode cX12_reads 17 = .ok (.aload_n 0, 1) := by decide +kernel
theorem zw_124 : Cond.methodLink RX12 341 yX12_readsOne ∈ zT := zT_of 1623 (by decide +kernel) (by decide +kernel)
theorem zw_125 : Cond.instanceMethod yX12_readsOne ∈ zT := zT_of 1625 (by decide +kernel) (by decide +kernel)
theorem zw_126 : Cond.selects RX12 yX12_readsOne yX12_readsOne ∈ zT := zT_ofS 44 (by decide +kernel) (by decide +kernel)
theorem zw_127 : Cond.code yX12_readsOne cX12_readsOne 5 none ∈ zT := zT_of 1626 (by decide +kernel) (by decide +kernel)
theorem dX12_reads_18 : decode cX12_reads 18 = .ok (.invokevirtual 341, 3) := by decide +kernel
theorem dX12_reads_21 : decode cX12_reads 21 = .ok (.aload_n 0, 1) := by decide +kernel
theorem dX12_reads_22 : decode cX12_reads 22 = .ok (.getfield 234, 3) := by decide +kernel
theorem dX12_reads_25 : decode cX12_reads 25 = .ok (.iconst (-1), 1) := by decide +kernel
theorem dX12_reads_26 : decode cX12_reads 26 = .ok (.if_icmp .ne 19, 3) := by decide +kernel
theorem dX12_reads_45 : decode cX12_reads 45 = .ok (.return_, 1) := by decide +kernel
abbrev cX12_read : ByteArray := prog_14_method_55_code
def yX12_read : MethodName := ⟨RX12, "read", "(I)I"⟩
theorem dX12_read_0 : decode cX12_read 0 = .ok (.aload_n 0, 1) := by decide +kernel
theorem dX12_read_1 : decode cX12_read 1 = .ok (.iload_n 1, 1) := by decide +kernel
theorem dX12_read_2 : decode cX12_read 2 = .ok (.invokestatic 225, 3) := by decide +kernel
theorem dX12_read_5 : decode cX12_read 5 = .ok (.invokevirtual 215, 3) := by decide +kernel
theorem dX12_read_8 : decode cX12_read 8 = .ok (.ifCond .eq 5, 3) := by decide +kernel
theorem dX12_read_13 : decode cX12_read 13 = .ok (.aload_n 0, 1) := by decide +kernel
theorem zw_128 : Cond.methodLink RX12 231 yX12_reads ∈ zT := zT_of 1619 (by decide +kernel) (by decide +kernel)
theorem zw_129 : Cond.instanceMethod yX12_reads ∈ zT := zT_of 1621 (by decide +kernel) (by decide +kernel)
theorem zw_130 : Cond.selects RX12 yX12_reads yX12_reads ∈ zT := zT_ofS 43 (by decide +kernel) (by decide +kernel)
theorem zw_131 : Cond.code yX12_reads cX12_reads 1 none ∈ zT := zT_of 1622 (by decide +kernel) (by decide +kernel)
theorem dX12_read_14 : decode cX12_read 14 = .ok (.invokevirtual 231, 3) := by decide +kernel
theorem dX12_read_17 : decode cX12_read 17 = .ok (.aload_n 0, 1) := by decide +kernel
theorem dX12_read_18 : decode cX12_read 18 = .ok (.aload_n 0, 1) := by decide +kernel
theorem dX12_read_19 : decode cX12_read 19 = .ok (.getfield 234, 3) := by decide +kernel
theorem dX12_read_22 : decode cX12_read 22 = .ok (.iconst (-1), 1) := by decide +kernel
theorem dX12_read_23 : decode cX12_read 23 = .ok (.if_icmp .ne 7, 3) := by decide +kernel
theorem dX12_read_30 : decode cX12_read 30 = .ok (.iconst 0, 1) := by decide +kernel
theorem dX12_read_31 : decode cX12_read 31 = .ok (.iconst 2, 1) := by decide +kernel
theorem dX12_read_32 : decode cX12_read 32 = .ok (.invokevirtual 56, 3) := by decide +kernel
theorem dX12_read_35 : decode cX12_read 35 = .ok (.ifCond .eq 5, 3) := by decide +kernel
theorem dX12_read_38 : decode cX12_read 38 = .ok (.iconst 0, 1) := by decide +kernel
theorem dX12_read_39 : decode cX12_read 39 = .ok (.ireturn, 1) := by decide +kernel
theorem dX12_read_11 : decode cX12_read 11 = .ok (.iconst 0, 1) := by decide +kernel
theorem dX12_read_12 : decode cX12_read 12 = .ok (.ireturn, 1) := by decide +kernel
abbrev cX12_errorPlace : ByteArray := prog_14_method_100_code
def yX12_errorPlace : MethodName := ⟨RX12, "errorPlace", "()I"⟩
theorem dX12_errorPlace_0 : decode cX12_errorPlace 0 = .ok (.aload_n 0, 1) := by decide +kernel
theorem dX12_errorPlace_1 : decode cX12_errorPlace 1 = .ok (.iconst 0, 1) := by decide +kernel
theorem dX12_errorPlace_2 : decode cX12_errorPlace 2 = .ok (.putfield 52, 3) := by decide +kernel
theorem dX12_errorPlace_5 : decode cX12_errorPlace 5 = .ok (.aload_n 0, 1) := by decide +kernel
theorem dX12_errorPlace_6 : decode cX12_errorPlace 6 = .ok (.invokevirtual 231, 3) := by decide +kernel
theorem dX12_errorPlace_9 : decode cX12_errorPlace 9 = .ok (.aload_n 0, 1) := by decide +kernel
theorem dX12_errorPlace_10 : decode cX12_errorPlace 10 = .ok (.getfield 234, 3) := by decide +kernel
theorem dX12_errorPlace_13 : decode cX12_errorPlace 13 = .ok (.ireturn, 1) := by decide +kernel
abbrev cX12_image : ByteArray := prog_14_method_92_code
def yX12_image : MethodName := ⟨RX12, "image", "(I)Z"⟩
theorem dX12_image_0 : decode cX12_image 0 = .ok (.aload_n 0, 1) := by decide +kernel
theorem dX12_image_1 : decode cX12_image 1 = .ok (.iload_n 1, 1) := by decide +kernel
theorem dX12_image_2 : decode cX12_image 2 = .ok (.iconst 0, 1) := by decide +kernel
theorem dX12_image_3 : decode cX12_image 3 = .ok (.iconst 1, 1) := by decide +kernel
theorem dX12_image_4 : decode cX12_image 4 = .ok (.invokestatic 60, 3) := by decide +kernel
theorem dX12_image_7 : decode cX12_image 7 = .ok (.invokevirtual 215, 3) := by decide +kernel
theorem dX12_image_10 : decode cX12_image 10 = .ok (.ifCond .eq 5, 3) := by decide +kernel
theorem dX12_image_15 : decode cX12_image 15 = .ok (.aload_n 0, 1) := by decide +kernel
theorem dX12_image_16 : decode cX12_image 16 = .ok (.getfield 21, 3) := by decide +kernel
theorem dX12_image_19 : decode cX12_image 19 = .ok (.iload_n 1, 1) := by decide +kernel
theorem dX12_image_20 : decode cX12_image 20 = .ok (.baload, 1) := by decide +kernel
theorem dX12_image_21 : decode cX12_image 21 = .ok (.istore_n 2, 1) := by decide +kernel
theorem dX12_image_22 : decode cX12_image 22 = .ok (.aload_n 0, 1) := by decide +kernel
theorem dX12_image_23 : decode cX12_image 23 = .ok (.getfield 21, 3) := by decide +kernel
theorem dX12_image_26 : decode cX12_image 26 = .ok (.iload_n 1, 1) := by decide +kernel
theorem dX12_image_27 : decode cX12_image 27 = .ok (.iconst 1, 1) := by decide +kernel
theorem dX12_image_28 : decode cX12_image 28 = .ok (.bastore, 1) := by decide +kernel
theorem dX12_image_29 : decode cX12_image 29 = .ok (.aload_n 0, 1) := by decide +kernel
theorem dX12_image_30 : decode cX12_image 30 = .ok (.getfield 9, 3) := by decide +kernel
theorem dX12_image_33 : decode cX12_image 33 = .ok (.iconst 0, 1) := by decide +kernel
theorem dX12_image_34 : decode cX12_image 34 = .ok (.aload_n 0, 1) := by decide +kernel
theorem zw_132 : Cond.fieldLink RX12 18 RX12 "images" "[[I" ∈ zT := zT_of 1491 (by decide +kernel) (by decide +kernel)
theorem dX12_image_35 : decode cX12_image 35 = .ok (.getfield 18, 3) := by decide +kernel
theorem dX12_image_38 : decode cX12_image 38 = .ok (.iload_n 1, 1) := by decide +kernel
theorem dX12_image_39 : decode cX12_image 39 = .ok (.aaload, 1) := by decide +kernel
theorem dX12_image_40 : decode cX12_image 40 = .ok (.iconst 0, 1) := by decide +kernel
theorem dX12_image_41 : decode cX12_image 41 = .ok (.sipush 6792, 3) := by decide +kernel
theorem dX12_image_44 : decode cX12_image 44 = .ok (.invokestatic 68, 3) := by decide +kernel
theorem dX12_image_47 : decode cX12_image 47 = .ok (.iload_n 2, 1) := by decide +kernel
theorem dX12_image_48 : decode cX12_image 48 = .ok (.ireturn, 1) := by decide +kernel
theorem dX12_image_13 : decode cX12_image 13 = .ok (.iconst 0, 1) := by decide +kernel
theorem dX12_image_14 : decode cX12_image 14 = .ok (.ireturn, 1) := by decide +kernel
set_option maxHeartbeats 4000000 in
set_option maxRecDepth 100000 in
theorem k_X12_checksum (l : Launch) (sz : Nat) (D : va_G) (a : Nat → Nat) (cI : ClassId) : Met l yX12_checksum (.code yX12_checksum cX12_checksum 5 (some .long) :: zT) ({ frames := 2, cells := 0, slots := 0, locals := 42 }) (va_Pc [.ref (a 0)] (zM D [((a 0), .inr (12, zMo a zI0)), ((a 1), .inl (cI, 6792, .inl zI0))] [(cI, .int)] sz)) (va_Ql (fun (r : Int64) (_ : Unit) => r = 7) (fun _ t => zE D [] [] (va_A [((a 0), .inr (12, zMo a zI0)), ((a 1), .inl (cI, 6792, .inl zI0))] sz) t) (va_A [((a 0), .inr (12, zMo a zI0)), ((a 1), .inl (cI, 6792, .inl zI0))] sz)) 0 0 (va_A [((a 0), .inr (12, zMo a zI0)), ((a 1), .inl (cI, 6792, .inl zI0))] sz) := by
  refine Met.ofW (cc := cX12_checksum) (maxL := 5) (ret := (some .long)) (by decide) rfl ?_
  intro p e s m args below meth c s₁ B hml hv
  obtain ⟨rfl, hsz, hP, hK, hD0⟩ := hv
  have hx := B.exec
  have hb := B.bytes
  have hr := B.returns
  have hts := atoms_spec (ws := (.code yX12_checksum cX12_checksum 5 (some .long) :: zT)) B.pre
  have ht : ∀ w ∈ zT, w.before _ s = true := fun w h => hts w (List.mem_cons_of_mem _ h)
  have hown : s.vm.findClass RX12 = some m.cls := findClass_of_methodNamed B.named
  have hlocks := B.notSynchronized
  subst hsz
  have hD := hD0.self (sz := s.heap.size)
  generalize hAe : va_A [((a 0), .inr (12, zMo a zI0)), ((a 1), .inl (cI, 6792, .inl zI0))] s.heap.size = A at hD ⊢
  have hA : ∀ q : Nat, s.heap.size ≤ q → A q := fun q h => by rw [← hAe]; exact Or.inr h
  have hS : va_S A s.heap s.heap [] := va_S.rf
  have hP : va_P D vwCl [((a 0), .inr (12, zMo a zI0)), ((a 1), .inl (cI, 6792, .inl zI0))] s.heap := hP
  have hl := lv_entry ([.ref (a 0)]) (n := 5) (Nat.le_of_ble_eq_true rfl)
  rw [lg_entry_eq]
  generalize (lg_sl ([.ref (a 0)]) ++ List.replicate (5 - (lg_sl ([.ref (a 0)])).length) Slot.unset).toArray = ls at hl ⊢
  have hl : lv_has ls 5 [(0, .ref (a 0))] := hl
  skip
  refine lv_aload_n hx hb dX12_checksum_0 rfl (lv_at hl 0 rfl) ?_
  refine lv_iconst (v := 0) hx hb dX12_checksum_1 (by decide) ?_
  refine va_put (D := D) (ci := 12) (v := .int 0) (ty := .int) (C := RX12) (T := TX12) (N := 25) hx hb ht zinX12 tyX12 tyX12_ok nmX12 hown hK hP hD hS 0 rfl rfl 0 (by decide) (ht _ zw_29) (fun _ h9 => h9) rfl (by decide +kernel) rfl rfl (Nat.le_of_ble_eq_true rfl) dX12_checksum_2 (fun H locs hP hD hS => ?_)
  have hP : va_P D vwCl [((a 0), .inr (12, zMo a (upd zI0 0 0))), ((a 1), .inl (cI, 6792, .inl zI0))] H := hP
  have hD : va_D A [((a 0), .inr (12, zMo a (upd zI0 0 0))), ((a 1), .inl (cI, 6792, .inl zI0))] := hD
  refine lv_ldc2 (v := 7) hx hb hown (ht _ zw_116) dX12_checksum_5 ?_
  refine lv_lstore_n (lv' := [(1, .long 7), (0, .ref (a 0))]) hx hb dX12_checksum_8 rfl hl (by decide) rfl (fun ls hl => ?_)
  refine lv_iconst (v := 0) hx hb dX12_checksum_9 (by decide) ?_
  refine lv_istore_n (lv' := [(3, .int 0), (1, .long 7), (0, .ref (a 0))]) hx hb dX12_checksum_10 rfl hl (by decide) rfl (fun ls hl => ?_)
  have hloop_1 : ∀ (n_1 : Nat) (x3 : Int32), 0 ≤ x3.toInt → x3.toInt ≤ 100 → 100 - x3.toInt < n_1 → ∀ (ls : Array Slot), lv_has ls 5 [(3, .int x3), (1, .long 7), (0, .ref (a 0))] → W p l e (headSpec (.code yX12_checksum cX12_checksum 5 (some .long) :: zT) ({ frames := 2, cells := 0, slots := 0, locals := 42 })).room s m (([.ref (a 0)] : List Value)).toArray below meth c H locs 0 0 (MQ below (va_Ql (fun (r : Int64) (_ : Unit) => r = 7) (fun _ t => zE D [] [] A t) A) (([.ref (a 0)] : List Value)).toArray s 0 0 A) (F0 m 11 ls []) := by
    intro n_1
    induction n_1 with
    | zero => intro x3 hx0 hx1 hx2; intros; exfalso; omega
    | succ n_1 ih_1 =>
      intro x3 hlo_1 hhi_1 hms_1 ls hl
      refine lv_iload_n hx hb dX12_checksum_11 rfl (lv_at hl 0 rfl) ?_
      refine lv_bipush (v := 100) hx hb dX12_checksum_12 (by decide) ?_
      refine lv_icmp_ge (tgt := 77) hx hb dX12_checksum_14 (by decide) (fun c_2 => ?_) (fun c_2 => ?_)
      · skip
        simp only [fa_lt, fa_le, fa_eq, Int32.reduceToInt] at c_2
        refine lv_lload_n hx hb dX12_checksum_77 rfl (lv_at hl 1 rfl) ?_
        have hP9 := hP.sub (ws' := []) [] rfl
        have hD9 := hD.sub (ws' := []) [] (by decide) rfl
        have hK9 := hK.sub (tys' := []) [] rfl
        refine W.widen (k := 0) (n := 0) (Nat.le_of_ble_eq_true rfl) (Nat.le_of_ble_eq_true rfl) ?_
        exact W.lret (v := 7) hx hb hr (fun t ht0 hW => ⟨⟨7, (), rfl, rfl, (zE_of hP9 hK9 hD9 ht0 hW)⟩, hS.F ht0⟩) hS.2.2 dX12_checksum_78
      · skip
        simp only [fa_lt, fa_le, fa_eq, Int32.reduceToInt] at c_2
        refine lv_aload_n hx hb dX12_checksum_17 rfl (lv_at hl 2 rfl) ?_
        refine lv_iload_n hx hb dX12_checksum_18 rfl (lv_at hl 0 rfl) ?_
        refine vp_callSi (va_runV (As := [.int x3]) (rest := []) ⟨hx, hb, hml, hown, ht⟩ (k_X12_atLaw l D a (upd zI0 0 0) cI x3) (cwV 1 ht (zG_V zw_73 zw_74 zw_75 zw_2 zw_76) rfl rfl rfl (by decide +kernel) ⟨Nat.le_of_ble_eq_true rfl, Nat.le_of_ble_eq_true rfl⟩) (zR_V (va_recv hK hP (ci := 12) (q0 := 0) rfl rfl) hP hK) rfl rfl hl.1 rfl (lv_room (Nat.le_of_ble_eq_true rfl)) dX12_checksum_19 ⟨Nat.le_of_ble_eq_true rfl, Nat.le_of_ble_eq_true rfl⟩).run (fun r_3 hw_3 => ?_)
        obtain rfl : r_3 = (-1) := hw_3
        refine lv_istore (lv' := [(4, .int (-1)), (3, .int x3), (1, .long 7), (0, .ref (a 0))]) hx hb dX12_checksum_22 hl (by decide) rfl (fun ls hl => ?_)
        refine lv_iload hx hb dX12_checksum_24 (lv_at hl 0 rfl) ?_
        refine lv_iconst (v := (-1)) hx hb dX12_checksum_26 (by decide) ?_
        refine lv_icmp_eq (tgt := 71) hx hb dX12_checksum_27 (by decide) (fun c_4 => ?_) (fun c_4 => ?_)
        · skip
          obtain ⟨x_5, e_5⟩ : ∃ y : Int32, y = x3 + 1 := ⟨_, rfl⟩
          refine lv_iinc (v := x_5) (lv' := [(3, .int x_5), (4, .int (-1)), (1, .long 7), (0, .ref (a 0))]) hx hb dX12_checksum_71 hl (k := 1) rfl (by rw [e_5]; rfl) (by decide) rfl (fun ls hl => ?_)
          refine lv_goto (tgt := 11) hx hb dX12_checksum_74 (by decide) ?_
          have hinc_6 : x_5.toInt = x3.toInt + 1 := by rw [e_5]; exact zinc (by omega)
          exact ih_1 x_5 (by omega) (by omega) (by omega)   ls (lv_sub hl [0, 2, 3] rfl)
        · skip
          exact absurd c_4 (by decide)
  refine hloop_1 101 0 (by decide) (by decide) (by decide)   ls (lv_sub hl [0, 1, 2] rfl)
set_option maxHeartbeats 4000000 in
set_option maxRecDepth 100000 in
theorem k_X12_provedShare (l : Launch) (sz : Nat) (D : va_G) (a : Nat → Nat) (cI : ClassId) : Met l yX12_provedShare (.code yX12_provedShare cX12_provedShare 3 (some .float) :: zT) ({ frames := 1, cells := 0, slots := 0, locals := 20 }) (va_Pc [.ref (a 0)] (zM D [((a 0), .inr (12, zMo a zI0)), ((a 1), .inl (cI, 6792, .inl zI0))] [(cI, .int)] sz)) (va_Qf (fun (r : UInt32) (_ : Unit) => r = FP.fconst0) (fun _ t => zE D [] [] (va_A [((a 0), .inr (12, zMo a zI0)), ((a 1), .inl (cI, 6792, .inl zI0))] sz) t) (va_A [((a 0), .inr (12, zMo a zI0)), ((a 1), .inl (cI, 6792, .inl zI0))] sz)) 0 0 (va_A [((a 0), .inr (12, zMo a zI0)), ((a 1), .inl (cI, 6792, .inl zI0))] sz) := by
  refine Met.ofW (cc := cX12_provedShare) (maxL := 3) (ret := (some .float)) (by decide) rfl ?_
  intro p e s m args below meth c s₁ B hml hv
  obtain ⟨rfl, hsz, hP, hK, hD0⟩ := hv
  have hx := B.exec
  have hb := B.bytes
  have hr := B.returns
  have hts := atoms_spec (ws := (.code yX12_provedShare cX12_provedShare 3 (some .float) :: zT)) B.pre
  have ht : ∀ w ∈ zT, w.before _ s = true := fun w h => hts w (List.mem_cons_of_mem _ h)
  have hown : s.vm.findClass RX12 = some m.cls := findClass_of_methodNamed B.named
  have hlocks := B.notSynchronized
  subst hsz
  have hD := hD0.self (sz := s.heap.size)
  generalize hAe : va_A [((a 0), .inr (12, zMo a zI0)), ((a 1), .inl (cI, 6792, .inl zI0))] s.heap.size = A at hD ⊢
  have hA : ∀ q : Nat, s.heap.size ≤ q → A q := fun q h => by rw [← hAe]; exact Or.inr h
  have hS : va_S A s.heap s.heap [] := va_S.rf
  have hP : va_P D vwCl [((a 0), .inr (12, zMo a zI0)), ((a 1), .inl (cI, 6792, .inl zI0))] s.heap := hP
  have hl := lv_entry ([.ref (a 0)]) (n := 3) (Nat.le_of_ble_eq_true rfl)
  rw [lg_entry_eq]
  generalize (lg_sl ([.ref (a 0)]) ++ List.replicate (3 - (lg_sl ([.ref (a 0)])).length) Slot.unset).toArray = ls at hl ⊢
  have hl : lv_has ls 3 [(0, .ref (a 0))] := hl
  skip
  refine lv_aload_n hx hb dX12_provedShare_0 rfl (lv_at hl 0 rfl) ?_
  refine lv_iconst (v := 0) hx hb dX12_provedShare_1 (by decide) ?_
  refine va_put (D := D) (ci := 12) (v := .int 0) (ty := .int) (C := RX12) (T := TX12) (N := 25) hx hb ht zinX12 tyX12 tyX12_ok nmX12 hown hK hP hD hS 0 rfl rfl 0 (by decide) (ht _ zw_29) (fun _ h9 => h9) rfl (by decide +kernel) rfl rfl (Nat.le_of_ble_eq_true rfl) dX12_provedShare_2 (fun H locs hP hD hS => ?_)
  have hP : va_P D vwCl [((a 0), .inr (12, zMo a (upd zI0 0 0))), ((a 1), .inl (cI, 6792, .inl zI0))] H := hP
  have hD : va_D A [((a 0), .inr (12, zMo a (upd zI0 0 0))), ((a 1), .inl (cI, 6792, .inl zI0))] := hD
  refine lv_iconst (v := 0) hx hb dX12_provedShare_5 (by decide) ?_
  refine lv_istore_n (lv' := [(1, .int 0), (0, .ref (a 0))]) hx hb dX12_provedShare_6 rfl hl (by decide) rfl (fun ls hl => ?_)
  refine lv_iconst (v := 0) hx hb dX12_provedShare_7 (by decide) ?_
  refine lv_istore_n (lv' := [(2, .int 0), (1, .int 0), (0, .ref (a 0))]) hx hb dX12_provedShare_8 rfl hl (by decide) rfl (fun ls hl => ?_)
  refine lv_iload_n hx hb dX12_provedShare_9 rfl (lv_at hl 0 rfl) ?_
  refine lv_aload_n hx hb dX12_provedShare_10 rfl (lv_at hl 2 rfl) ?_
  refine vp_callSi (va_runV (As := []) (rest := [.int 0]) ⟨hx, hb, hml, hown, ht⟩ (k_X12_lawsNow l D a (upd zI0 0 0) cI) (cwV 0 ht (zG_V zw_39 zw_40 zw_41 zw_2 zw_42) rfl rfl rfl (by decide +kernel) ⟨Nat.le_of_ble_eq_true rfl, Nat.le_of_ble_eq_true rfl⟩) (zR_V (va_recv hK hP (ci := 12) (q0 := 0) rfl rfl) hP hK) rfl rfl hl.1 rfl (lv_room (Nat.le_of_ble_eq_true rfl)) dX12_provedShare_11 ⟨Nat.le_of_ble_eq_true rfl, Nat.le_of_ble_eq_true rfl⟩).run (fun r_1 hw_1 => ?_)
  obtain rfl : r_1 = 0 := hw_1
  refine lv_icmp_ge (tgt := 42) hx hb dX12_provedShare_14 (by decide) (fun c_2 => ?_) (fun c_2 => ?_)
  · skip
    refine lv_aload_n hx hb dX12_provedShare_42 rfl (lv_at hl 2 rfl) ?_
    refine vp_callSi (va_runV (As := []) (rest := []) ⟨hx, hb, hml, hown, ht⟩ (k_X12_lawsNow l D a (upd zI0 0 0) cI) (cwV 0 ht (zG_V zw_39 zw_40 zw_41 zw_2 zw_42) rfl rfl rfl (by decide +kernel) ⟨Nat.le_of_ble_eq_true rfl, Nat.le_of_ble_eq_true rfl⟩) (zR_V (va_recv hK hP (ci := 12) (q0 := 0) rfl rfl) hP hK) rfl rfl hl.1 rfl (lv_room (Nat.le_of_ble_eq_true rfl)) dX12_provedShare_43 ⟨Nat.le_of_ble_eq_true rfl, Nat.le_of_ble_eq_true rfl⟩).run (fun r_3 hw_3 => ?_)
    obtain rfl : r_3 = 0 := hw_3
    refine lv_if_ne (tgt := 53) hx hb dX12_provedShare_46 (by decide) (fun c_4 => ?_) (fun c_4 => ?_)
    · skip
      exact absurd c_4 (by decide)
    · skip
      refine lv_fconst0 hx hb dX12_provedShare_49 ?_
      refine lv_goto (tgt := 61) hx hb dX12_provedShare_50 (by decide) ?_
      have hP9 := hP.sub (ws' := []) [] rfl
      have hD9 := hD.sub (ws' := []) [] (by decide) rfl
      have hK9 := hK.sub (tys' := []) [] rfl
      refine W.widen (k := 0) (n := 0) (Nat.le_of_ble_eq_true rfl) (Nat.le_of_ble_eq_true rfl) ?_
      exact W.fret (v := FP.fconst0) hx hb hr (fun t ht0 hW => ⟨⟨FP.fconst0, (), rfl, rfl, (zE_of hP9 hK9 hD9 ht0 hW)⟩, hS.F ht0⟩) hS.2.2 dX12_provedShare_61
  · skip
    exact absurd c_2 (by decide)
set_option maxHeartbeats 4000000 in
set_option maxRecDepth 100000 in
theorem k_X12_next (l : Launch) (D : va_G) (a : Nat → Nat) (i : Nat → Int32) (h7 : i 7 = 0) (h8 : i 8 = 0) : Met l yX12_next (.code yX12_next cX12_next 1 (some .int) :: zT) ({ frames := 0, cells := 0, slots := 0, locals := 0 }) (va_Pc [.ref (a 0)] (zR D [((a 0), .inr (12, zMo a i))] [])) (vp_Si (fun r => r = -1)) 0 0 (fun _ => False) := by
  refine Met.ofW (cc := cX12_next) (maxL := 1) (ret := (some .int)) (by decide) rfl ?_
  intro p e s m args below meth c s₁ B hml hv
  obtain ⟨rfl, hP, hK⟩ := hv
  have hx := B.exec
  have hb := B.bytes
  have hr := B.returns
  have hts := atoms_spec (ws := (.code yX12_next cX12_next 1 (some .int) :: zT)) B.pre
  have ht : ∀ w ∈ zT, w.before _ s = true := fun w h => hts w (List.mem_cons_of_mem _ h)
  have hown : s.vm.findClass RX12 = some m.cls := findClass_of_methodNamed B.named
  have hlocks := B.notSynchronized
  have hl := lv_entry ([.ref (a 0)]) (n := 1) (Nat.le_of_ble_eq_true rfl)
  rw [lg_entry_eq]
  generalize (lg_sl ([.ref (a 0)]) ++ List.replicate (1 - (lg_sl ([.ref (a 0)])).length) Slot.unset).toArray = ls at hl ⊢
  have hl : lv_has ls 1 [(0, .ref (a 0))] := hl
  skip
  refine lv_aload_n hx hb dX12_next_0 rfl (lv_at hl 0 rfl) ?_
  refine va_get (D := D) (ci := 12) (v := .int 0) (C := RX12) (T := TX12) (N := 25) hx hb ht zinX12 hown hK hP 0 rfl rfl 8 (by decide) (ht _ zw_117) (fun _ h9 => h9) (by show some (Value.int (i 8)) = _; rw [h8]) dX12_next_1 ?_
  refine lv_aload_n hx hb dX12_next_4 rfl (lv_at hl 0 rfl) ?_
  refine va_get (D := D) (ci := 12) (v := .int 0) (C := RX12) (T := TX12) (N := 25) hx hb ht zinX12 hown hK hP 0 rfl rfl 7 (by decide) (ht _ zw_110) (fun _ h9 => h9) (by show some (Value.int (i 7)) = _; rw [h7]) dX12_next_5 ?_
  refine lv_icmp_ge (tgt := 38) hx hb dX12_next_8 (by decide) (fun c_1 => ?_) (fun c_1 => ?_)
  · skip
    refine lv_aload_n hx hb dX12_next_38 rfl (lv_at hl 0 rfl) ?_
    refine va_get (D := D) (ci := 12) (v := .int 0) (C := RX12) (T := TX12) (N := 25) hx hb ht zinX12 hown hK hP 0 rfl rfl 8 (by decide) (ht _ zw_117) (fun _ h9 => h9) (by show some (Value.int (i 8)) = _; rw [h8]) dX12_next_39 ?_
    refine lv_aload_n hx hb dX12_next_42 rfl (lv_at hl 0 rfl) ?_
    refine va_get (D := D) (ci := 12) (v := .int 0) (C := RX12) (T := TX12) (N := 25) hx hb ht zinX12 hown hK hP 0 rfl rfl 7 (by decide) (ht _ zw_110) (fun _ h9 => h9) (by show some (Value.int (i 7)) = _; rw [h7]) dX12_next_43 ?_
    refine lv_icmp_ge (tgt := 61) hx hb dX12_next_46 (by decide) (fun c_2 => ?_) (fun c_2 => ?_)
    · skip
      refine lv_iconst (v := (-1)) hx hb dX12_next_61 (by decide) ?_
      refine W.widen (k := 0) (n := 0) (Nat.le_of_ble_eq_true rfl) (Nat.le_of_ble_eq_true rfl) ?_
      exact W.iret (v := (-1)) hx hb hr (fun t ht hW => ⟨(-1), rfl, rfl, ht⟩) (fun q h => nomatch h) dX12_next_62
    · skip
      exact absurd c_2 (by decide)
  · skip
    exact absurd c_1 (by decide)
set_option maxHeartbeats 4000000 in
set_option maxRecDepth 100000 in
theorem k_X12_readsOne (l : Launch) (sz : Nat) (D : va_G) (a : Nat → Nat) (cI : ClassId) (t0 : Int32) : Met l yX12_readsOne (.code yX12_readsOne cX12_readsOne 5 none :: zT) ({ frames := 1, cells := 0, slots := 0, locals := 22 }) (va_Pc [.ref (a 0)] (zM D [((a 0), .inr (12, zMo a (upd (upd (upd zI0 0 t0) 8 0) 9 (-1)))), ((a 1), .inl (cI, 6792, .inl zI0)), ((a 10), .inl (cI, 41, .inl (upd zI0 0 0)))] [(cI, .int)] sz)) (va_Qv (fun (_ : Unit) => True) (fun _ t => zE D [(a 0, .inr (12, zMo a (upd (upd (upd zI0 0 t0) 8 0) 9 0)))] [] (va_A [((a 0), .inr (12, zMo a (upd (upd (upd zI0 0 t0) 8 0) 9 (-1)))), ((a 1), .inl (cI, 6792, .inl zI0)), ((a 10), .inl (cI, 41, .inl (upd zI0 0 0)))] sz) t) (va_A [((a 0), .inr (12, zMo a (upd (upd (upd zI0 0 t0) 8 0) 9 (-1)))), ((a 1), .inl (cI, 6792, .inl zI0)), ((a 10), .inl (cI, 41, .inl (upd zI0 0 0)))] sz)) 0 0 (va_A [((a 0), .inr (12, zMo a (upd (upd (upd zI0 0 t0) 8 0) 9 (-1)))), ((a 1), .inl (cI, 6792, .inl zI0)), ((a 10), .inl (cI, 41, .inl (upd zI0 0 0)))] sz) := by
  refine Met.ofW (cc := cX12_readsOne) (maxL := 5) (ret := none) (by decide) rfl ?_
  intro p e s m args below meth c s₁ B hml hv
  obtain ⟨rfl, hsz, hP, hK, hD0⟩ := hv
  have hx := B.exec
  have hb := B.bytes
  have hr := B.returns
  have hts := atoms_spec (ws := (.code yX12_readsOne cX12_readsOne 5 none :: zT)) B.pre
  have ht : ∀ w ∈ zT, w.before _ s = true := fun w h => hts w (List.mem_cons_of_mem _ h)
  have hown : s.vm.findClass RX12 = some m.cls := findClass_of_methodNamed B.named
  have hlocks := B.notSynchronized
  subst hsz
  have hD := hD0.self (sz := s.heap.size)
  generalize hAe : va_A [((a 0), .inr (12, zMo a (upd (upd (upd zI0 0 t0) 8 0) 9 (-1)))), ((a 1), .inl (cI, 6792, .inl zI0)), ((a 10), .inl (cI, 41, .inl (upd zI0 0 0)))] s.heap.size = A at hD ⊢
  have hA : ∀ q : Nat, s.heap.size ≤ q → A q := fun q h => by rw [← hAe]; exact Or.inr h
  have hS : va_S A s.heap s.heap [] := va_S.rf
  have hP : va_P D vwCl [((a 0), .inr (12, zMo a (upd (upd (upd zI0 0 t0) 8 0) 9 (-1)))), ((a 1), .inl (cI, 6792, .inl zI0)), ((a 10), .inl (cI, 41, .inl (upd zI0 0 0)))] s.heap := hP
  have hl := lv_entry ([.ref (a 0)]) (n := 5) (Nat.le_of_ble_eq_true rfl)
  rw [lg_entry_eq]
  generalize (lg_sl ([.ref (a 0)]) ++ List.replicate (5 - (lg_sl ([.ref (a 0)])).length) Slot.unset).toArray = ls at hl ⊢
  have hl : lv_has ls 5 [(0, .ref (a 0))] := hl
  skip
  refine lv_aload_n hx hb dX12_readsOne_0 rfl (lv_at hl 0 rfl) ?_
  refine va_get (D := D) (ci := 12) (v := .int (-1)) (C := RX12) (T := TX12) (N := 25) hx hb ht zinX12 hown hK hP 0 rfl rfl 9 (by decide) (ht _ zw_118) (fun _ h9 => h9) rfl dX12_readsOne_1 ?_
  refine lv_iconst (v := (-1)) hx hb dX12_readsOne_4 (by decide) ?_
  refine lv_icmp_eq (tgt := 9) hx hb dX12_readsOne_5 (by decide) (fun c_1 => ?_) (fun c_1 => ?_)
  · skip
    refine lv_aload_n hx hb dX12_readsOne_9 rfl (lv_at hl 0 rfl) ?_
    refine vp_callSi (va_runV (As := []) (rest := []) ⟨hx, hb, hml, hown, ht⟩ (k_X12_next l D a (upd (upd (upd zI0 0 t0) 8 0) 9 (-1)) rfl rfl) (cwV 0 ht (zG_V zw_119 zw_120 zw_121 zw_2 zw_122) rfl rfl rfl (by decide +kernel) ⟨Nat.le_of_ble_eq_true rfl, Nat.le_of_ble_eq_true rfl⟩) (zR_V (va_recv hK hP (ci := 12) (q0 := 0) rfl rfl) (hP.sub (ws' := [((a 0), .inr (12, zMo a (upd (upd (upd zI0 0 t0) 8 0) 9 (-1))))]) [0] rfl) (hK.sub (tys' := []) [] rfl)) rfl rfl hl.1 rfl (lv_room (Nat.le_of_ble_eq_true rfl)) dX12_readsOne_10 ⟨Nat.le_of_ble_eq_true rfl, Nat.le_of_ble_eq_true rfl⟩).run (fun r_2 hw_2 => ?_)
    obtain rfl : r_2 = (-1) := hw_2
    refine lv_istore_n (lv' := [(1, .int (-1)), (0, .ref (a 0))]) hx hb dX12_readsOne_13 rfl hl (by decide) rfl (fun ls hl => ?_)
    refine lv_iload_n hx hb dX12_readsOne_14 rfl (lv_at hl 0 rfl) ?_
    refine lv_bipush (v := 97) hx hb dX12_readsOne_15 (by decide) ?_
    refine lv_bipush (v := 100) hx hb dX12_readsOne_17 (by decide) ?_
    refine vp_callSi (va_runS (As := [.int (-1), .int 97, .int 100]) (rest := []) ⟨hx, hb, hml, hown, ht⟩ (k_X12_in l (-1) 97 100) (va_cwS 3 ht (zG_S zw_0 zw_1 zw_2 zw_3) rfl rfl rfl (by decide +kernel) ⟨Nat.le_of_ble_eq_true rfl, Nat.le_of_ble_eq_true rfl⟩) zN_S rfl rfl hl.1 rfl (lv_room (Nat.le_of_ble_eq_true rfl)) dX12_readsOne_19 ⟨Nat.le_of_ble_eq_true rfl, Nat.le_of_ble_eq_true rfl⟩).run (fun r_3 hw_3 => ?_)
    rcases hw_3 with ⟨rfl, h_3⟩ | ⟨rfl, h_3⟩
    · skip
      exact absurd h_3 (by decide)
    · skip
      refine lv_if_eq (tgt := 32) hx hb dX12_readsOne_22 (by decide) (fun c_4 => ?_) (fun c_4 => ?_)
      · skip
        refine lv_iload_n hx hb dX12_readsOne_32 rfl (lv_at hl 0 rfl) ?_
        refine lv_bipush (v := 112) hx hb dX12_readsOne_33 (by decide) ?_
        refine lv_bipush (v := 115) hx hb dX12_readsOne_35 (by decide) ?_
        refine vp_callSi (va_runS (As := [.int (-1), .int 112, .int 115]) (rest := []) ⟨hx, hb, hml, hown, ht⟩ (k_X12_in l (-1) 112 115) (va_cwS 3 ht (zG_S zw_0 zw_1 zw_2 zw_3) rfl rfl rfl (by decide +kernel) ⟨Nat.le_of_ble_eq_true rfl, Nat.le_of_ble_eq_true rfl⟩) zN_S rfl rfl hl.1 rfl (lv_room (Nat.le_of_ble_eq_true rfl)) dX12_readsOne_37 ⟨Nat.le_of_ble_eq_true rfl, Nat.le_of_ble_eq_true rfl⟩).run (fun r_5 hw_5 => ?_)
        rcases hw_5 with ⟨rfl, h_5⟩ | ⟨rfl, h_5⟩
        · skip
          exact absurd h_5 (by decide)
        · skip
          refine lv_if_eq (tgt := 65) hx hb dX12_readsOne_40 (by decide) (fun c_6 => ?_) (fun c_6 => ?_)
          · skip
            refine lv_iconst (v := (-1)) hx hb dX12_readsOne_65 (by decide) ?_
            refine lv_istore_n (lv' := [(2, .int (-1)), (1, .int (-1)), (0, .ref (a 0))]) hx hb dX12_readsOne_66 rfl hl (by decide) rfl (fun ls hl => ?_)
            refine lv_iload_n hx hb dX12_readsOne_67 rfl (lv_at hl 0 rfl) ?_
            refine lv_iconst (v := (-1)) hx hb dX12_readsOne_68 (by decide) ?_
            refine lv_icmp_eq (tgt := 83) hx hb dX12_readsOne_69 (by decide) (fun c_7 => ?_) (fun c_7 => ?_)
            · skip
              refine lv_aload_n hx hb dX12_readsOne_83 rfl (lv_at hl 2 rfl) ?_
              refine lv_aload_n hx hb dX12_readsOne_84 rfl (lv_at hl 2 rfl) ?_
              refine va_get (D := D) (ci := 12) (v := .int 0) (C := RX12) (T := TX12) (N := 25) hx hb ht zinX12 hown hK hP 0 rfl rfl 8 (by decide) (ht _ zw_117) (fun _ h9 => h9) rfl dX12_readsOne_85 ?_
              refine va_put (D := D) (ci := 12) (v := .int 0) (ty := .int) (C := RX12) (T := TX12) (N := 25) hx hb ht zinX12 tyX12 tyX12_ok nmX12 hown hK hP hD hS 0 rfl rfl 9 (by decide) (ht _ zw_118) (fun _ h9 => h9) rfl (by decide +kernel) rfl rfl (Nat.le_of_ble_eq_true rfl) dX12_readsOne_88 (fun H locs hP hD hS => ?_)
              have hP : va_P D vwCl [((a 0), .inr (12, zMo a (upd (upd (upd zI0 0 t0) 8 0) 9 0))), ((a 1), .inl (cI, 6792, .inl zI0)), ((a 10), .inl (cI, 41, .inl (upd zI0 0 0)))] H := hP
              have hD : va_D A [((a 0), .inr (12, zMo a (upd (upd (upd zI0 0 t0) 8 0) 9 0))), ((a 1), .inl (cI, 6792, .inl zI0)), ((a 10), .inl (cI, 41, .inl (upd zI0 0 0)))] := hD
              have hP9 := hP.sub (ws' := [((a 0), .inr (12, zMo a (upd (upd (upd zI0 0 t0) 8 0) 9 0)))]) [0] rfl
              have hD9 := hD.sub (ws' := [((a 0), .inr (12, zMo a (upd (upd (upd zI0 0 t0) 8 0) 9 0)))]) [0] (by decide) rfl
              have hK9 := hK.sub (tys' := []) [] rfl
              refine W.widen (k := 0) (n := 0) (Nat.le_of_ble_eq_true rfl) (Nat.le_of_ble_eq_true rfl) ?_
              exact W.vret hx hb hr (fun t ht0 hW => ⟨⟨(), rfl, trivial, (zE_of hP9 hK9 hD9 ht0 hW)⟩, hS.F ht0⟩) hS.2.2 dX12_readsOne_91
            · skip
              exact absurd c_7 (by decide)
          · skip
            exact absurd c_6 (by decide)
      · skip
        exact absurd c_4 (by decide)
  · skip
    exact absurd c_1 (by decide)
set_option maxHeartbeats 4000000 in
set_option maxRecDepth 100000 in
theorem k_X12_reads (l : Launch) (sz : Nat) (D : va_G) (a : Nat → Nat) (cI : ClassId) (t0 : Int32) : Met l yX12_reads (.code yX12_reads cX12_reads 1 none :: zT) ({ frames := 2, cells := 0, slots := 0, locals := 46 }) (va_Pc [.ref (a 0)] (zM D [((a 0), .inr (12, zMo a (upd zI0 0 t0))), ((a 1), .inl (cI, 6792, .inl zI0)), ((a 10), .inl (cI, 41, .inl zI0))] [(cI, .int)] sz)) (va_Qv (fun (_ : Unit) => True) (fun _ t => zE D [(a 0, .inr (12, zMo a (upd (upd (upd zI0 0 t0) 8 0) 9 0)))] [] (va_A [((a 0), .inr (12, zMo a (upd zI0 0 t0))), ((a 1), .inl (cI, 6792, .inl zI0)), ((a 10), .inl (cI, 41, .inl zI0))] sz) t) (va_A [((a 0), .inr (12, zMo a (upd zI0 0 t0))), ((a 1), .inl (cI, 6792, .inl zI0)), ((a 10), .inl (cI, 41, .inl zI0))] sz)) 0 0 (va_A [((a 0), .inr (12, zMo a (upd zI0 0 t0))), ((a 1), .inl (cI, 6792, .inl zI0)), ((a 10), .inl (cI, 41, .inl zI0))] sz) := by
  refine Met.ofW (cc := cX12_reads) (maxL := 1) (ret := none) (by decide) rfl ?_
  intro p e s m args below meth c s₁ B hml hv
  obtain ⟨rfl, hsz, hP, hK, hD0⟩ := hv
  have hx := B.exec
  have hb := B.bytes
  have hr := B.returns
  have hts := atoms_spec (ws := (.code yX12_reads cX12_reads 1 none :: zT)) B.pre
  have ht : ∀ w ∈ zT, w.before _ s = true := fun w h => hts w (List.mem_cons_of_mem _ h)
  have hown : s.vm.findClass RX12 = some m.cls := findClass_of_methodNamed B.named
  have hlocks := B.notSynchronized
  subst hsz
  have hD := hD0.self (sz := s.heap.size)
  generalize hAe : va_A [((a 0), .inr (12, zMo a (upd zI0 0 t0))), ((a 1), .inl (cI, 6792, .inl zI0)), ((a 10), .inl (cI, 41, .inl zI0))] s.heap.size = A at hD ⊢
  have hA : ∀ q : Nat, s.heap.size ≤ q → A q := fun q h => by rw [← hAe]; exact Or.inr h
  have hS : va_S A s.heap s.heap [] := va_S.rf
  have hP : va_P D vwCl [((a 0), .inr (12, zMo a (upd zI0 0 t0))), ((a 1), .inl (cI, 6792, .inl zI0)), ((a 10), .inl (cI, 41, .inl zI0))] s.heap := hP
  have hl := lv_entry ([.ref (a 0)]) (n := 1) (Nat.le_of_ble_eq_true rfl)
  rw [lg_entry_eq]
  generalize (lg_sl ([.ref (a 0)]) ++ List.replicate (1 - (lg_sl ([.ref (a 0)])).length) Slot.unset).toArray = ls at hl ⊢
  have hl : lv_has ls 1 [(0, .ref (a 0))] := hl
  skip
  refine lv_aload_n hx hb dX12_reads_0 rfl (lv_at hl 0 rfl) ?_
  refine lv_iconst (v := 0) hx hb dX12_reads_1 (by decide) ?_
  refine va_put (D := D) (ci := 12) (v := .int 0) (ty := .int) (C := RX12) (T := TX12) (N := 25) hx hb ht zinX12 tyX12 tyX12_ok nmX12 hown hK hP hD hS 0 rfl rfl 8 (by decide) (ht _ zw_117) (fun _ h9 => h9) rfl (by decide +kernel) rfl rfl (Nat.le_of_ble_eq_true rfl) dX12_reads_2 (fun H locs hP hD hS => ?_)
  have hP : va_P D vwCl [((a 0), .inr (12, zMo a (upd (upd zI0 0 t0) 8 0))), ((a 1), .inl (cI, 6792, .inl zI0)), ((a 10), .inl (cI, 41, .inl zI0))] H := hP
  have hD : va_D A [((a 0), .inr (12, zMo a (upd (upd zI0 0 t0) 8 0))), ((a 1), .inl (cI, 6792, .inl zI0)), ((a 10), .inl (cI, 41, .inl zI0))] := hD
  refine lv_aload_n hx hb dX12_reads_5 rfl (lv_at hl 0 rfl) ?_
  refine lv_iconst (v := (-1)) hx hb dX12_reads_6 (by decide) ?_
  refine va_put (D := D) (ci := 12) (v := .int (-1)) (ty := .int) (C := RX12) (T := TX12) (N := 25) hx hb ht zinX12 tyX12 tyX12_ok nmX12 hown hK hP hD hS 0 rfl rfl 9 (by decide) (ht _ zw_118) (fun _ h9 => h9) rfl (by decide +kernel) rfl rfl (Nat.le_of_ble_eq_true rfl) dX12_reads_7 (fun H locs hP hD hS => ?_)
  have hP : va_P D vwCl [((a 0), .inr (12, zMo a (upd (upd (upd zI0 0 t0) 8 0) 9 (-1)))), ((a 1), .inl (cI, 6792, .inl zI0)), ((a 10), .inl (cI, 41, .inl zI0))] H := hP
  have hD : va_D A [((a 0), .inr (12, zMo a (upd (upd (upd zI0 0 t0) 8 0) 9 (-1)))), ((a 1), .inl (cI, 6792, .inl zI0)), ((a 10), .inl (cI, 41, .inl zI0))] := hD
  refine lv_aload_n hx hb dX12_reads_10 rfl (lv_at hl 0 rfl) ?_
  refine va_get (D := D) (ci := 12) (v := .ref (a 10)) (C := RX12) (T := TX12) (N := 25) hx hb ht zinX12 hown hK hP 0 rfl rfl 10 (by decide) (ht _ zw_123) (fun _ h9 => h9) rfl dX12_reads_11 ?_
  refine lv_iconst (v := 0) hx hb dX12_reads_14 (by decide) ?_
  refine lv_iconst (v := 0) hx hb dX12_reads_15 (by decide) ?_
  refine va_iast hx hb hK hP hD hS 2 0 rfl rfl (vp_in_iff.mpr (by decide)) dX12_reads_16 (fun H locs hP hD hS => ?_)
  have hP : va_P D vwCl [((a 0), .inr (12, zMo a (upd (upd (upd zI0 0 t0) 8 0) 9 (-1)))), ((a 1), .inl (cI, 6792, .inl zI0)), ((a 10), .inl (cI, 41, .inl (upd zI0 0 0)))] H := hP
  have hD : va_D A [((a 0), .inr (12, zMo a (upd (upd (upd zI0 0 t0) 8 0) 9 (-1)))), ((a 1), .inl (cI, 6792, .inl zI0)), ((a 10), .inl (cI, 41, .inl (upd zI0 0 0)))] := hD
  refine lv_aload_n hx hb dX12_reads_17 rfl (lv_at hl 0 rfl) ?_
  have hPc := hP.sub (ws' := [((a 0), .inr (12, zMo a (upd (upd (upd zI0 0 t0) 8 0) 9 (-1)))), ((a 1), .inl (cI, 6792, .inl zI0)), ((a 10), .inl (cI, 41, .inl (upd zI0 0 0)))]) [0, 1, 2] rfl
  have hDc := hD.sub (ws' := [((a 0), .inr (12, zMo a (upd (upd (upd zI0 0 t0) 8 0) 9 (-1)))), ((a 1), .inl (cI, 6792, .inl zI0)), ((a 10), .inl (cI, 41, .inl (upd zI0 0 0)))]) [0, 1, 2] (by decide) rfl
  have hKc := hK.sub (tys' := [(cI, .int)]) [0] rfl
  have hFc := va_free (wc := [((a 0), .inr (12, zMo a (upd (upd (upd zI0 0 t0) 8 0) 9 (-1)))), ((a 1), .inl (cI, 6792, .inl zI0)), ((a 10), .inl (cI, 41, .inl (upd zI0 0 0)))]) hD hS hA [0, 1, 2] rfl
  refine va_callv (va_runV (As := []) (rest := []) ⟨hx, hb, hml, hown, ht⟩ (k_X12_readsOne l _ D a cI t0) (cwV 0 ht (zG_V zw_124 zw_125 zw_126 zw_2 zw_127) rfl rfl rfl (by decide +kernel) ⟨Nat.le_of_ble_eq_true rfl, Nat.le_of_ble_eq_true rfl⟩) (zM_V (va_recv hK hP (ci := 12) (q0 := 0) rfl rfl) hPc hKc hDc) rfl rfl hl.1 rfl (lv_room (Nat.le_of_ble_eq_true rfl)) dX12_reads_18 ⟨Nat.le_of_ble_eq_true rfl, Nat.le_of_ble_eq_true rfl⟩) hS (fun q _ h => hFc q h) hFc (fun u_1 t H1 locs ht0 hvm hw_1 hB hz1 hk1 hS => ?_)
  obtain ⟨hP1, hK1, hD1⟩ := hB
  rw [ht0] at hP1
  have hK1 := va_K.moved hvm.symm hK1
  obtain ⟨hP, hD⟩ := va_join (wr := []) (w1 := [((a 0), .inr (12, zMo a (upd (upd (upd zI0 0 t0) 8 0) 9 0)))]) hP hD [0, 1, 2] [] rfl rfl (by decide) (by decide) hk1 hFc hP1 hD1
  generalize H1 = H at hP hS ⊢
  have hP : va_P D vwCl [((a 0), .inr (12, zMo a (upd (upd (upd zI0 0 t0) 8 0) 9 0)))] H := hP
  have hD : va_D A [((a 0), .inr (12, zMo a (upd (upd (upd zI0 0 t0) 8 0) 9 0)))] := hD
  refine lv_aload_n hx hb dX12_reads_21 rfl (lv_at hl 0 rfl) ?_
  refine va_get (D := D) (ci := 12) (v := .int 0) (C := RX12) (T := TX12) (N := 25) hx hb ht zinX12 hown hK hP 0 rfl rfl 9 (by decide) (ht _ zw_118) (fun _ h9 => h9) rfl dX12_reads_22 ?_
  refine lv_iconst (v := (-1)) hx hb dX12_reads_25 (by decide) ?_
  refine lv_icmp_ne (tgt := 45) hx hb dX12_reads_26 (by decide) (fun c_2 => ?_) (fun c_2 => ?_)
  · skip
    have hP9 := hP.sub (ws' := [((a 0), .inr (12, zMo a (upd (upd (upd zI0 0 t0) 8 0) 9 0)))]) [0] rfl
    have hD9 := hD.sub (ws' := [((a 0), .inr (12, zMo a (upd (upd (upd zI0 0 t0) 8 0) 9 0)))]) [0] (by decide) rfl
    have hK9 := hK.sub (tys' := []) [] rfl
    refine W.widen (k := 0) (n := 0) (Nat.le_of_ble_eq_true rfl) (Nat.le_of_ble_eq_true rfl) ?_
    exact W.vret hx hb hr (fun t ht0 hW => ⟨⟨(), rfl, trivial, (zE_of hP9 hK9 hD9 ht0 hW)⟩, hS.F ht0⟩) hS.2.2 dX12_reads_45
  · skip
    exact absurd c_2 (by decide)
set_option maxHeartbeats 4000000 in
set_option maxRecDepth 100000 in
theorem k_X12_read (l : Launch) (sz : Nat) (D : va_G) (a : Nat → Nat) (cI : ClassId) (p0 : Int32) : Met l yX12_read (.code yX12_read cX12_read 2 (some .int) :: zT) ({ frames := 3, cells := 0, slots := 0, locals := 66 }) (va_Pc [.ref (a 0), .int p0] (zM D [((a 0), .inr (12, zMo a zI0)), ((a 1), .inl (cI, 6792, .inl zI0)), ((a 10), .inl (cI, 41, .inl zI0))] [(cI, .int)] sz)) (va_Qi (fun (r : Int32) (u : Nat → Int32) => zS_read p0 (u 0) r) (fun u t => zE D [(a 0, .inr (12, zMo a u))] [] (va_A [((a 0), .inr (12, zMo a zI0)), ((a 1), .inl (cI, 6792, .inl zI0)), ((a 10), .inl (cI, 41, .inl zI0))] sz) t) (va_A [((a 0), .inr (12, zMo a zI0)), ((a 1), .inl (cI, 6792, .inl zI0)), ((a 10), .inl (cI, 41, .inl zI0))] sz)) 0 0 (va_A [((a 0), .inr (12, zMo a zI0)), ((a 1), .inl (cI, 6792, .inl zI0)), ((a 10), .inl (cI, 41, .inl zI0))] sz) := by
  refine Met.ofW (cc := cX12_read) (maxL := 2) (ret := (some .int)) (by decide) rfl ?_
  intro p e s m args below meth c s₁ B hml hv
  obtain ⟨rfl, hsz, hP, hK, hD0⟩ := hv
  have hx := B.exec
  have hb := B.bytes
  have hr := B.returns
  have hts := atoms_spec (ws := (.code yX12_read cX12_read 2 (some .int) :: zT)) B.pre
  have ht : ∀ w ∈ zT, w.before _ s = true := fun w h => hts w (List.mem_cons_of_mem _ h)
  have hown : s.vm.findClass RX12 = some m.cls := findClass_of_methodNamed B.named
  have hlocks := B.notSynchronized
  subst hsz
  have hD := hD0.self (sz := s.heap.size)
  generalize hAe : va_A [((a 0), .inr (12, zMo a zI0)), ((a 1), .inl (cI, 6792, .inl zI0)), ((a 10), .inl (cI, 41, .inl zI0))] s.heap.size = A at hD ⊢
  have hA : ∀ q : Nat, s.heap.size ≤ q → A q := fun q h => by rw [← hAe]; exact Or.inr h
  have hS : va_S A s.heap s.heap [] := va_S.rf
  have hP : va_P D vwCl [((a 0), .inr (12, zMo a zI0)), ((a 1), .inl (cI, 6792, .inl zI0)), ((a 10), .inl (cI, 41, .inl zI0))] s.heap := hP
  have hl := lv_entry ([.ref (a 0), .int p0]) (n := 2) (Nat.le_of_ble_eq_true rfl)
  rw [lg_entry_eq]
  generalize (lg_sl ([.ref (a 0), .int p0]) ++ List.replicate (2 - (lg_sl ([.ref (a 0), .int p0])).length) Slot.unset).toArray = ls at hl ⊢
  have hl : lv_has ls 2 [(0, .ref (a 0)), (1, .int p0)] := hl
  skip
  refine lv_aload_n hx hb dX12_read_0 rfl (lv_at hl 0 rfl) ?_
  refine lv_iload_n hx hb dX12_read_1 rfl (lv_at hl 1 rfl) ?_
  refine vp_callSi (va_runS (As := [.int p0]) (rest := [.ref (a 0)]) ⟨hx, hb, hml, hown, ht⟩ (k_X12_isRegister l p0) (va_cwS 1 ht (zG_S zw_59 zw_60 zw_2 zw_61) rfl rfl rfl (by decide +kernel) ⟨Nat.le_of_ble_eq_true rfl, Nat.le_of_ble_eq_true rfl⟩) zN_S rfl rfl hl.1 rfl (lv_room (Nat.le_of_ble_eq_true rfl)) dX12_read_2 ⟨Nat.le_of_ble_eq_true rfl, Nat.le_of_ble_eq_true rfl⟩).run (fun r_1 hw_1 => ?_)
  rcases hw_1 with ⟨rfl, h_1⟩ | ⟨rfl, h_1⟩
  · skip
    have hPc := hP.sub (ws' := [((a 0), .inr (12, zMo a zI0))]) [0] rfl
    have hDc := hD.sub (ws' := [((a 0), .inr (12, zMo a zI0))]) [0] (by decide) rfl
    have hKc := hK.sub (tys' := []) [] rfl
    have hFc := va_free (wc := [((a 0), .inr (12, zMo a zI0))]) hD hS hA [0] rfl
    refine va_calli (va_runV (As := [.int 1]) (rest := []) ⟨hx, hb, hml, hown, ht⟩ (k_X12_lacks l _ D a zI0 1 (by decide)) (cwV 1 ht (zG_V zw_62 zw_63 zw_64 zw_2 zw_65) rfl rfl rfl (by decide +kernel) ⟨Nat.le_of_ble_eq_true rfl, Nat.le_of_ble_eq_true rfl⟩) (zM_V (va_recv hK hP (ci := 12) (q0 := 0) rfl rfl) hPc hKc hDc) rfl rfl hl.1 rfl (lv_room (Nat.le_of_ble_eq_true rfl)) dX12_read_5 ⟨Nat.le_of_ble_eq_true rfl, Nat.le_of_ble_eq_true rfl⟩) hS (fun q _ h => hFc q h) hFc (fun r_2 u_2 t H1 locs ht0 hvm hw_2 hB hz1 hk1 hS => ?_)
    obtain ⟨rfl, rfl⟩ := hw_2.2 (by decide)
    obtain ⟨hP1, hK1, hD1⟩ := hB
    rw [ht0] at hP1
    have hK1 := va_K.moved hvm.symm hK1
    obtain ⟨hP, hD⟩ := va_join (wr := [((a 1), .inl (cI, 6792, .inl zI0)), ((a 10), .inl (cI, 41, .inl zI0))]) (w1 := [((a 0), .inr (12, zMo a (upd zI0 0 0)))]) hP hD [0] [1, 2] rfl rfl (by decide) (by decide) hk1 hFc hP1 hD1
    generalize H1 = H at hP hS ⊢
    have hP : va_P D vwCl [((a 1), .inl (cI, 6792, .inl zI0)), ((a 10), .inl (cI, 41, .inl zI0)), ((a 0), .inr (12, zMo a (upd zI0 0 0)))] H := hP
    have hD : va_D A [((a 1), .inl (cI, 6792, .inl zI0)), ((a 10), .inl (cI, 41, .inl zI0)), ((a 0), .inr (12, zMo a (upd zI0 0 0)))] := hD
    refine lv_if_eq (tgt := 13) hx hb dX12_read_8 (by decide) (fun c_3 => ?_) (fun c_3 => ?_)
    · skip
      refine lv_aload_n hx hb dX12_read_13 rfl (lv_at hl 0 rfl) ?_
      have hPc := hP.sub (ws' := [((a 0), .inr (12, zMo a (upd zI0 0 0))), ((a 1), .inl (cI, 6792, .inl zI0)), ((a 10), .inl (cI, 41, .inl zI0))]) [2, 0, 1] rfl
      have hDc := hD.sub (ws' := [((a 0), .inr (12, zMo a (upd zI0 0 0))), ((a 1), .inl (cI, 6792, .inl zI0)), ((a 10), .inl (cI, 41, .inl zI0))]) [2, 0, 1] (by decide) rfl
      have hKc := hK.sub (tys' := [(cI, .int)]) [0] rfl
      have hFc := va_free (wc := [((a 0), .inr (12, zMo a (upd zI0 0 0))), ((a 1), .inl (cI, 6792, .inl zI0)), ((a 10), .inl (cI, 41, .inl zI0))]) hD hS hA [2, 0, 1] rfl
      refine va_callv (va_runV (As := []) (rest := []) ⟨hx, hb, hml, hown, ht⟩ (k_X12_reads l _ D a cI 0) (cwV 0 ht (zG_V zw_128 zw_129 zw_130 zw_2 zw_131) rfl rfl rfl (by decide +kernel) ⟨Nat.le_of_ble_eq_true rfl, Nat.le_of_ble_eq_true rfl⟩) (zM_V (va_recv hK hP (ci := 12) (q0 := 2) rfl rfl) hPc hKc hDc) rfl rfl hl.1 rfl (lv_room (Nat.le_of_ble_eq_true rfl)) dX12_read_14 ⟨Nat.le_of_ble_eq_true rfl, Nat.le_of_ble_eq_true rfl⟩) hS (fun q _ h => hFc q h) hFc (fun u_4 t H1 locs ht0 hvm hw_4 hB hz1 hk1 hS => ?_)
      obtain ⟨hP1, hK1, hD1⟩ := hB
      rw [ht0] at hP1
      have hK1 := va_K.moved hvm.symm hK1
      obtain ⟨hP, hD⟩ := va_join (wr := []) (w1 := [((a 0), .inr (12, zMo a (upd (upd (upd zI0 0 0) 8 0) 9 0)))]) hP hD [2, 0, 1] [] rfl rfl (by decide) (by decide) hk1 hFc hP1 hD1
      generalize H1 = H at hP hS ⊢
      have hP : va_P D vwCl [((a 0), .inr (12, zMo a (upd (upd (upd zI0 0 0) 8 0) 9 0)))] H := hP
      have hD : va_D A [((a 0), .inr (12, zMo a (upd (upd (upd zI0 0 0) 8 0) 9 0)))] := hD
      refine lv_aload_n hx hb dX12_read_17 rfl (lv_at hl 0 rfl) ?_
      refine lv_aload_n hx hb dX12_read_18 rfl (lv_at hl 0 rfl) ?_
      refine va_get (D := D) (ci := 12) (v := .int 0) (C := RX12) (T := TX12) (N := 25) hx hb ht zinX12 hown hK hP 0 rfl rfl 9 (by decide) (ht _ zw_118) (fun _ h9 => h9) rfl dX12_read_19 ?_
      refine lv_iconst (v := (-1)) hx hb dX12_read_22 (by decide) ?_
      refine lv_icmp_ne (tgt := 30) hx hb dX12_read_23 (by decide) (fun c_5 => ?_) (fun c_5 => ?_)
      · skip
        refine lv_iconst (v := 0) hx hb dX12_read_30 (by decide) ?_
        refine lv_iconst (v := 2) hx hb dX12_read_31 (by decide) ?_
        have hPc := hP.sub (ws' := [((a 0), .inr (12, zMo a (upd (upd (upd zI0 0 0) 8 0) 9 0)))]) [0] rfl
        have hDc := hD.sub (ws' := [((a 0), .inr (12, zMo a (upd (upd (upd zI0 0 0) 8 0) 9 0)))]) [0] (by decide) rfl
        have hKc := hK.sub (tys' := []) [] rfl
        have hFc := va_free (wc := [((a 0), .inr (12, zMo a (upd (upd (upd zI0 0 0) 8 0) 9 0)))]) hD hS hA [0] rfl
        refine va_calli (va_runV (As := [.int 0, .int 2]) (rest := []) ⟨hx, hb, hml, hown, ht⟩ (k_X12_no l _ D a (upd (upd (upd zI0 0 0) 8 0) 9 0) 0 2 (by decide)) (cwV 2 ht (zG_V zw_30 zw_31 zw_32 zw_2 zw_33) rfl rfl rfl (by decide +kernel) ⟨Nat.le_of_ble_eq_true rfl, Nat.le_of_ble_eq_true rfl⟩) (zM_V (va_recv hK hP (ci := 12) (q0 := 0) rfl rfl) hPc hKc hDc) rfl rfl hl.1 rfl (lv_room (Nat.le_of_ble_eq_true rfl)) dX12_read_32 ⟨Nat.le_of_ble_eq_true rfl, Nat.le_of_ble_eq_true rfl⟩) hS (fun q _ h => hFc q h) hFc (fun r_6 u_6 t H1 locs ht0 hvm hw_6 hB hz1 hk1 hS => ?_)
        obtain ⟨rfl, rfl⟩ := hw_6.1 rfl
        obtain ⟨hP1, hK1, hD1⟩ := hB
        rw [ht0] at hP1
        have hK1 := va_K.moved hvm.symm hK1
        obtain ⟨hP, hD⟩ := va_join (wr := []) (w1 := [((a 0), .inr (12, zMo a (upd (upd (upd zI0 8 0) 9 0) 0 2)))]) hP hD [0] [] rfl rfl (by decide) (by decide) hk1 hFc hP1 hD1
        generalize H1 = H at hP hS ⊢
        have hP : va_P D vwCl [((a 0), .inr (12, zMo a (upd (upd (upd zI0 8 0) 9 0) 0 2)))] H := hP
        have hD : va_D A [((a 0), .inr (12, zMo a (upd (upd (upd zI0 8 0) 9 0) 0 2)))] := hD
        refine lv_if_eq (tgt := 40) hx hb dX12_read_35 (by decide) (fun c_7 => ?_) (fun c_7 => ?_)
        · skip
          exact absurd c_7 (by decide)
        · skip
          refine lv_iconst (v := 0) hx hb dX12_read_38 (by decide) ?_
          have hP9 := hP.sub (ws' := [((a 0), .inr (12, zMo a (upd (upd (upd zI0 8 0) 9 0) 0 2)))]) [0] rfl
          have hD9 := hD.sub (ws' := [((a 0), .inr (12, zMo a (upd (upd (upd zI0 8 0) 9 0) 0 2)))]) [0] (by decide) rfl
          have hK9 := hK.sub (tys' := []) [] rfl
          refine W.widen (k := 0) (n := 0) (Nat.le_of_ble_eq_true rfl) (Nat.le_of_ble_eq_true rfl) ?_
          exact W.iret (v := 0) hx hb hr (fun t ht0 hW => ⟨⟨0, upd (upd (upd zI0 8 0) 9 0) 0 2, rfl, (show zS_read p0 2 0 from (.inr ⟨rfl, by omega⟩)), (zE_of hP9 hK9 hD9 ht0 hW)⟩, hS.F ht0⟩) hS.2.2 dX12_read_39
      · skip
        exact absurd c_5 (by decide)
    · skip
      exact absurd c_3 (by decide)
  · skip
    have hPc := hP.sub (ws' := [((a 0), .inr (12, zMo a zI0))]) [0] rfl
    have hDc := hD.sub (ws' := [((a 0), .inr (12, zMo a zI0))]) [0] (by decide) rfl
    have hKc := hK.sub (tys' := []) [] rfl
    have hFc := va_free (wc := [((a 0), .inr (12, zMo a zI0))]) hD hS hA [0] rfl
    refine va_calli (va_runV (As := [.int 0]) (rest := []) ⟨hx, hb, hml, hown, ht⟩ (k_X12_lacks l _ D a zI0 0 (by decide)) (cwV 1 ht (zG_V zw_62 zw_63 zw_64 zw_2 zw_65) rfl rfl rfl (by decide +kernel) ⟨Nat.le_of_ble_eq_true rfl, Nat.le_of_ble_eq_true rfl⟩) (zM_V (va_recv hK hP (ci := 12) (q0 := 0) rfl rfl) hPc hKc hDc) rfl rfl hl.1 rfl (lv_room (Nat.le_of_ble_eq_true rfl)) dX12_read_5 ⟨Nat.le_of_ble_eq_true rfl, Nat.le_of_ble_eq_true rfl⟩) hS (fun q _ h => hFc q h) hFc (fun r_8 u_8 t H1 locs ht0 hvm hw_8 hB hz1 hk1 hS => ?_)
    obtain ⟨rfl, rfl⟩ := hw_8.1 rfl
    obtain ⟨hP1, hK1, hD1⟩ := hB
    rw [ht0] at hP1
    have hK1 := va_K.moved hvm.symm hK1
    obtain ⟨hP, hD⟩ := va_join (wr := [((a 1), .inl (cI, 6792, .inl zI0)), ((a 10), .inl (cI, 41, .inl zI0))]) (w1 := [((a 0), .inr (12, zMo a (upd zI0 0 1)))]) hP hD [0] [1, 2] rfl rfl (by decide) (by decide) hk1 hFc hP1 hD1
    generalize H1 = H at hP hS ⊢
    have hP : va_P D vwCl [((a 1), .inl (cI, 6792, .inl zI0)), ((a 10), .inl (cI, 41, .inl zI0)), ((a 0), .inr (12, zMo a (upd zI0 0 1)))] H := hP
    have hD : va_D A [((a 1), .inl (cI, 6792, .inl zI0)), ((a 10), .inl (cI, 41, .inl zI0)), ((a 0), .inr (12, zMo a (upd zI0 0 1)))] := hD
    refine lv_if_eq (tgt := 13) hx hb dX12_read_8 (by decide) (fun c_9 => ?_) (fun c_9 => ?_)
    · skip
      exact absurd c_9 (by decide)
    · skip
      refine lv_iconst (v := 0) hx hb dX12_read_11 (by decide) ?_
      have hP9 := hP.sub (ws' := [((a 0), .inr (12, zMo a (upd zI0 0 1)))]) [2] rfl
      have hD9 := hD.sub (ws' := [((a 0), .inr (12, zMo a (upd zI0 0 1)))]) [2] (by decide) rfl
      have hK9 := hK.sub (tys' := []) [] rfl
      refine W.widen (k := 0) (n := 0) (Nat.le_of_ble_eq_true rfl) (Nat.le_of_ble_eq_true rfl) ?_
      exact W.iret (v := 0) hx hb hr (fun t ht0 hW => ⟨⟨0, upd zI0 0 1, rfl, (show zS_read p0 1 0 from (.inl ⟨rfl, by omega⟩)), (zE_of hP9 hK9 hD9 ht0 hW)⟩, hS.F ht0⟩) hS.2.2 dX12_read_12
set_option maxHeartbeats 4000000 in
set_option maxRecDepth 100000 in
theorem k_X12_errorPlace (l : Launch) (sz : Nat) (D : va_G) (a : Nat → Nat) (cI : ClassId) : Met l yX12_errorPlace (.code yX12_errorPlace cX12_errorPlace 1 (some .int) :: zT) ({ frames := 3, cells := 0, slots := 0, locals := 66 }) (va_Pc [.ref (a 0)] (zM D [((a 0), .inr (12, zMo a zI0)), ((a 1), .inl (cI, 6792, .inl zI0)), ((a 10), .inl (cI, 41, .inl zI0))] [(cI, .int)] sz)) (va_Qi (fun (r : Int32) (_ : Unit) => r = 0) (fun _ t => zE D [] [] (va_A [((a 0), .inr (12, zMo a zI0)), ((a 1), .inl (cI, 6792, .inl zI0)), ((a 10), .inl (cI, 41, .inl zI0))] sz) t) (va_A [((a 0), .inr (12, zMo a zI0)), ((a 1), .inl (cI, 6792, .inl zI0)), ((a 10), .inl (cI, 41, .inl zI0))] sz)) 0 0 (va_A [((a 0), .inr (12, zMo a zI0)), ((a 1), .inl (cI, 6792, .inl zI0)), ((a 10), .inl (cI, 41, .inl zI0))] sz) := by
  refine Met.ofW (cc := cX12_errorPlace) (maxL := 1) (ret := (some .int)) (by decide) rfl ?_
  intro p e s m args below meth c s₁ B hml hv
  obtain ⟨rfl, hsz, hP, hK, hD0⟩ := hv
  have hx := B.exec
  have hb := B.bytes
  have hr := B.returns
  have hts := atoms_spec (ws := (.code yX12_errorPlace cX12_errorPlace 1 (some .int) :: zT)) B.pre
  have ht : ∀ w ∈ zT, w.before _ s = true := fun w h => hts w (List.mem_cons_of_mem _ h)
  have hown : s.vm.findClass RX12 = some m.cls := findClass_of_methodNamed B.named
  have hlocks := B.notSynchronized
  subst hsz
  have hD := hD0.self (sz := s.heap.size)
  generalize hAe : va_A [((a 0), .inr (12, zMo a zI0)), ((a 1), .inl (cI, 6792, .inl zI0)), ((a 10), .inl (cI, 41, .inl zI0))] s.heap.size = A at hD ⊢
  have hA : ∀ q : Nat, s.heap.size ≤ q → A q := fun q h => by rw [← hAe]; exact Or.inr h
  have hS : va_S A s.heap s.heap [] := va_S.rf
  have hP : va_P D vwCl [((a 0), .inr (12, zMo a zI0)), ((a 1), .inl (cI, 6792, .inl zI0)), ((a 10), .inl (cI, 41, .inl zI0))] s.heap := hP
  have hl := lv_entry ([.ref (a 0)]) (n := 1) (Nat.le_of_ble_eq_true rfl)
  rw [lg_entry_eq]
  generalize (lg_sl ([.ref (a 0)]) ++ List.replicate (1 - (lg_sl ([.ref (a 0)])).length) Slot.unset).toArray = ls at hl ⊢
  have hl : lv_has ls 1 [(0, .ref (a 0))] := hl
  skip
  refine lv_aload_n hx hb dX12_errorPlace_0 rfl (lv_at hl 0 rfl) ?_
  refine lv_iconst (v := 0) hx hb dX12_errorPlace_1 (by decide) ?_
  refine va_put (D := D) (ci := 12) (v := .int 0) (ty := .int) (C := RX12) (T := TX12) (N := 25) hx hb ht zinX12 tyX12 tyX12_ok nmX12 hown hK hP hD hS 0 rfl rfl 0 (by decide) (ht _ zw_29) (fun _ h9 => h9) rfl (by decide +kernel) rfl rfl (Nat.le_of_ble_eq_true rfl) dX12_errorPlace_2 (fun H locs hP hD hS => ?_)
  have hP : va_P D vwCl [((a 0), .inr (12, zMo a (upd zI0 0 0))), ((a 1), .inl (cI, 6792, .inl zI0)), ((a 10), .inl (cI, 41, .inl zI0))] H := hP
  have hD : va_D A [((a 0), .inr (12, zMo a (upd zI0 0 0))), ((a 1), .inl (cI, 6792, .inl zI0)), ((a 10), .inl (cI, 41, .inl zI0))] := hD
  refine lv_aload_n hx hb dX12_errorPlace_5 rfl (lv_at hl 0 rfl) ?_
  have hPc := hP.sub (ws' := [((a 0), .inr (12, zMo a (upd zI0 0 0))), ((a 1), .inl (cI, 6792, .inl zI0)), ((a 10), .inl (cI, 41, .inl zI0))]) [0, 1, 2] rfl
  have hDc := hD.sub (ws' := [((a 0), .inr (12, zMo a (upd zI0 0 0))), ((a 1), .inl (cI, 6792, .inl zI0)), ((a 10), .inl (cI, 41, .inl zI0))]) [0, 1, 2] (by decide) rfl
  have hKc := hK.sub (tys' := [(cI, .int)]) [0] rfl
  have hFc := va_free (wc := [((a 0), .inr (12, zMo a (upd zI0 0 0))), ((a 1), .inl (cI, 6792, .inl zI0)), ((a 10), .inl (cI, 41, .inl zI0))]) hD hS hA [0, 1, 2] rfl
  refine va_callv (va_runV (As := []) (rest := []) ⟨hx, hb, hml, hown, ht⟩ (k_X12_reads l _ D a cI 0) (cwV 0 ht (zG_V zw_128 zw_129 zw_130 zw_2 zw_131) rfl rfl rfl (by decide +kernel) ⟨Nat.le_of_ble_eq_true rfl, Nat.le_of_ble_eq_true rfl⟩) (zM_V (va_recv hK hP (ci := 12) (q0 := 0) rfl rfl) hPc hKc hDc) rfl rfl hl.1 rfl (lv_room (Nat.le_of_ble_eq_true rfl)) dX12_errorPlace_6 ⟨Nat.le_of_ble_eq_true rfl, Nat.le_of_ble_eq_true rfl⟩) hS (fun q _ h => hFc q h) hFc (fun u_1 t H1 locs ht0 hvm hw_1 hB hz1 hk1 hS => ?_)
  obtain ⟨hP1, hK1, hD1⟩ := hB
  rw [ht0] at hP1
  have hK1 := va_K.moved hvm.symm hK1
  obtain ⟨hP, hD⟩ := va_join (wr := []) (w1 := [((a 0), .inr (12, zMo a (upd (upd (upd zI0 0 0) 8 0) 9 0)))]) hP hD [0, 1, 2] [] rfl rfl (by decide) (by decide) hk1 hFc hP1 hD1
  generalize H1 = H at hP hS ⊢
  have hP : va_P D vwCl [((a 0), .inr (12, zMo a (upd (upd (upd zI0 0 0) 8 0) 9 0)))] H := hP
  have hD : va_D A [((a 0), .inr (12, zMo a (upd (upd (upd zI0 0 0) 8 0) 9 0)))] := hD
  refine lv_aload_n hx hb dX12_errorPlace_9 rfl (lv_at hl 0 rfl) ?_
  refine va_get (D := D) (ci := 12) (v := .int 0) (C := RX12) (T := TX12) (N := 25) hx hb ht zinX12 hown hK hP 0 rfl rfl 9 (by decide) (ht _ zw_118) (fun _ h9 => h9) rfl dX12_errorPlace_10 ?_
  have hP9 := hP.sub (ws' := []) [] rfl
  have hD9 := hD.sub (ws' := []) [] (by decide) rfl
  have hK9 := hK.sub (tys' := []) [] rfl
  refine W.widen (k := 0) (n := 0) (Nat.le_of_ble_eq_true rfl) (Nat.le_of_ble_eq_true rfl) ?_
  exact W.iret (v := 0) hx hb hr (fun t ht0 hW => ⟨⟨0, (), rfl, rfl, (zE_of hP9 hK9 hD9 ht0 hW)⟩, hS.F ht0⟩) hS.2.2 dX12_errorPlace_13
set_option maxHeartbeats 4000000 in
set_option maxRecDepth 100000 in
theorem k_X12_image (l : Launch) (sz : Nat) (D : va_G) (a : Nat → Nat) (cI : ClassId) (p0 : Int32) (cJ cZ : ClassId) (fb : Nat → Option Nat) (hb0 : fb 0 = some (a 31)) (hb1 : fb 1 = some (a 32)) : Met l yX12_image (.code yX12_image cX12_image 3 (some .boolean) :: zT) ({ frames := 2, cells := 0, slots := 0, locals := 64 }) (va_Pc [.ref (a 0), .int p0] (zM D [((a 0), .inr (12, zMo a zI0)), ((a 1), .inl (cI, 6792, .inl zI0)), ((a 4), .inl (cZ, 2, .inl zI0)), ((a 3), .inl (cJ, 2, .inr (.inr (.inr (.inr fb))))), ((a 31), .inl (cI, 6792, .inl zI0)), ((a 32), .inl (cI, 6792, .inl zI0))] [(cI, .int), (cJ, .array .int), (cZ, .boolean)] sz)) (va_Qi (fun (r : Int32) (u : Nat → Int32) => zS_image p0 (u 0) r) (fun u t => zE D [(a 0, .inr (12, zMo a u))] [] (va_A [((a 0), .inr (12, zMo a zI0)), ((a 1), .inl (cI, 6792, .inl zI0)), ((a 4), .inl (cZ, 2, .inl zI0)), ((a 3), .inl (cJ, 2, .inr (.inr (.inr (.inr fb))))), ((a 31), .inl (cI, 6792, .inl zI0)), ((a 32), .inl (cI, 6792, .inl zI0))] sz) t) (va_A [((a 0), .inr (12, zMo a zI0)), ((a 1), .inl (cI, 6792, .inl zI0)), ((a 4), .inl (cZ, 2, .inl zI0)), ((a 3), .inl (cJ, 2, .inr (.inr (.inr (.inr fb))))), ((a 31), .inl (cI, 6792, .inl zI0)), ((a 32), .inl (cI, 6792, .inl zI0))] sz)) 0 0 (va_A [((a 0), .inr (12, zMo a zI0)), ((a 1), .inl (cI, 6792, .inl zI0)), ((a 4), .inl (cZ, 2, .inl zI0)), ((a 3), .inl (cJ, 2, .inr (.inr (.inr (.inr fb))))), ((a 31), .inl (cI, 6792, .inl zI0)), ((a 32), .inl (cI, 6792, .inl zI0))] sz) := by
  refine Met.ofW (cc := cX12_image) (maxL := 3) (ret := (some .boolean)) (by decide) rfl ?_
  intro p e s m args below meth c s₁ B hml hv
  obtain ⟨rfl, hsz, hP, hK, hD0⟩ := hv
  have hx := B.exec
  have hb := B.bytes
  have hr := B.returns
  have hts := atoms_spec (ws := (.code yX12_image cX12_image 3 (some .boolean) :: zT)) B.pre
  have ht : ∀ w ∈ zT, w.before _ s = true := fun w h => hts w (List.mem_cons_of_mem _ h)
  have hown : s.vm.findClass RX12 = some m.cls := findClass_of_methodNamed B.named
  have hlocks := B.notSynchronized
  subst hsz
  have hD := hD0.self (sz := s.heap.size)
  generalize hAe : va_A [((a 0), .inr (12, zMo a zI0)), ((a 1), .inl (cI, 6792, .inl zI0)), ((a 4), .inl (cZ, 2, .inl zI0)), ((a 3), .inl (cJ, 2, .inr (.inr (.inr (.inr fb))))), ((a 31), .inl (cI, 6792, .inl zI0)), ((a 32), .inl (cI, 6792, .inl zI0))] s.heap.size = A at hD ⊢
  have hA : ∀ q : Nat, s.heap.size ≤ q → A q := fun q h => by rw [← hAe]; exact Or.inr h
  have hS : va_S A s.heap s.heap [] := va_S.rf
  have hP : va_P D vwCl [((a 0), .inr (12, zMo a zI0)), ((a 1), .inl (cI, 6792, .inl zI0)), ((a 4), .inl (cZ, 2, .inl zI0)), ((a 3), .inl (cJ, 2, .inr (.inr (.inr (.inr fb))))), ((a 31), .inl (cI, 6792, .inl zI0)), ((a 32), .inl (cI, 6792, .inl zI0))] s.heap := hP
  have hl := lv_entry ([.ref (a 0), .int p0]) (n := 3) (Nat.le_of_ble_eq_true rfl)
  rw [lg_entry_eq]
  generalize (lg_sl ([.ref (a 0), .int p0]) ++ List.replicate (3 - (lg_sl ([.ref (a 0), .int p0])).length) Slot.unset).toArray = ls at hl ⊢
  have hl : lv_has ls 3 [(0, .ref (a 0)), (1, .int p0)] := hl
  skip
  refine lv_aload_n hx hb dX12_image_0 rfl (lv_at hl 0 rfl) ?_
  refine lv_iload_n hx hb dX12_image_1 rfl (lv_at hl 1 rfl) ?_
  refine lv_iconst (v := 0) hx hb dX12_image_2 (by decide) ?_
  refine lv_iconst (v := 1) hx hb dX12_image_3 (by decide) ?_
  refine vp_callSi (va_runS (As := [.int p0, .int 0, .int 1]) (rest := [.ref (a 0)]) ⟨hx, hb, hml, hown, ht⟩ (k_X12_in l p0 0 1) (va_cwS 3 ht (zG_S zw_0 zw_1 zw_2 zw_3) rfl rfl rfl (by decide +kernel) ⟨Nat.le_of_ble_eq_true rfl, Nat.le_of_ble_eq_true rfl⟩) zN_S rfl rfl hl.1 rfl (lv_room (Nat.le_of_ble_eq_true rfl)) dX12_image_4 ⟨Nat.le_of_ble_eq_true rfl, Nat.le_of_ble_eq_true rfl⟩).run (fun r_1 hw_1 => ?_)
  rcases hw_1 with ⟨rfl, h_1⟩ | ⟨rfl, h_1⟩
  · skip
    simp only [Int32.reduceToInt] at h_1
    have hPc := hP.sub (ws' := [((a 0), .inr (12, zMo a zI0))]) [0] rfl
    have hDc := hD.sub (ws' := [((a 0), .inr (12, zMo a zI0))]) [0] (by decide) rfl
    have hKc := hK.sub (tys' := []) [] rfl
    have hFc := va_free (wc := [((a 0), .inr (12, zMo a zI0))]) hD hS hA [0] rfl
    refine va_calli (va_runV (As := [.int 1]) (rest := []) ⟨hx, hb, hml, hown, ht⟩ (k_X12_lacks l _ D a zI0 1 (by decide)) (cwV 1 ht (zG_V zw_62 zw_63 zw_64 zw_2 zw_65) rfl rfl rfl (by decide +kernel) ⟨Nat.le_of_ble_eq_true rfl, Nat.le_of_ble_eq_true rfl⟩) (zM_V (va_recv hK hP (ci := 12) (q0 := 0) rfl rfl) hPc hKc hDc) rfl rfl hl.1 rfl (lv_room (Nat.le_of_ble_eq_true rfl)) dX12_image_7 ⟨Nat.le_of_ble_eq_true rfl, Nat.le_of_ble_eq_true rfl⟩) hS (fun q _ h => hFc q h) hFc (fun r_2 u_2 t H1 locs ht0 hvm hw_2 hB hz1 hk1 hS => ?_)
    obtain ⟨rfl, rfl⟩ := hw_2.2 (by decide)
    obtain ⟨hP1, hK1, hD1⟩ := hB
    rw [ht0] at hP1
    have hK1 := va_K.moved hvm.symm hK1
    obtain ⟨hP, hD⟩ := va_join (wr := [((a 1), .inl (cI, 6792, .inl zI0)), ((a 4), .inl (cZ, 2, .inl zI0)), ((a 3), .inl (cJ, 2, .inr (.inr (.inr (.inr fb))))), ((a 31), .inl (cI, 6792, .inl zI0)), ((a 32), .inl (cI, 6792, .inl zI0))]) (w1 := [((a 0), .inr (12, zMo a (upd zI0 0 0)))]) hP hD [0] [1, 2, 3, 4, 5] rfl rfl (by decide) (by decide) hk1 hFc hP1 hD1
    generalize H1 = H at hP hS ⊢
    have hP : va_P D vwCl [((a 1), .inl (cI, 6792, .inl zI0)), ((a 4), .inl (cZ, 2, .inl zI0)), ((a 3), .inl (cJ, 2, .inr (.inr (.inr (.inr fb))))), ((a 31), .inl (cI, 6792, .inl zI0)), ((a 32), .inl (cI, 6792, .inl zI0)), ((a 0), .inr (12, zMo a (upd zI0 0 0)))] H := hP
    have hD : va_D A [((a 1), .inl (cI, 6792, .inl zI0)), ((a 4), .inl (cZ, 2, .inl zI0)), ((a 3), .inl (cJ, 2, .inr (.inr (.inr (.inr fb))))), ((a 31), .inl (cI, 6792, .inl zI0)), ((a 32), .inl (cI, 6792, .inl zI0)), ((a 0), .inr (12, zMo a (upd zI0 0 0)))] := hD
    refine lv_if_eq (tgt := 15) hx hb dX12_image_10 (by decide) (fun c_3 => ?_) (fun c_3 => ?_)
    · skip
      rcases (show p0 = 0 ∨ p0 = 1 by simp only [fa_eq, Int32.reduceToInt]; omega) with rfl | rfl
      · skip
        refine lv_aload_n hx hb dX12_image_15 rfl (lv_at hl 0 rfl) ?_
        refine va_get (D := D) (ci := 12) (v := .ref (a 4)) (C := RX12) (T := TX12) (N := 25) hx hb ht zinX12 hown hK hP 5 rfl rfl 4 (by decide) (ht _ zw_103) (fun _ h9 => h9) rfl dX12_image_16 ?_
        refine lv_iload_n hx hb dX12_image_19 rfl (lv_at hl 1 rfl) ?_
        refine va_zald hx hb hK hP 1 2 rfl rfl (vp_in_iff.mpr (by decide)) dX12_image_20 ?_
        refine W.eq (g2 := F0 m 21 ls (.int 0 :: [])) rfl ?_
        refine lv_istore_n (lv' := [(2, .int 0), (0, .ref (a 0)), (1, .int 0)]) hx hb dX12_image_21 rfl hl (by decide) rfl (fun ls hl => ?_)
        refine lv_aload_n hx hb dX12_image_22 rfl (lv_at hl 1 rfl) ?_
        refine va_get (D := D) (ci := 12) (v := .ref (a 4)) (C := RX12) (T := TX12) (N := 25) hx hb ht zinX12 hown hK hP 5 rfl rfl 4 (by decide) (ht _ zw_103) (fun _ h9 => h9) rfl dX12_image_23 ?_
        refine lv_iload_n hx hb dX12_image_26 rfl (lv_at hl 2 rfl) ?_
        refine lv_iconst (v := 1) hx hb dX12_image_27 (by decide) ?_
        refine va_zast hx hb hK hP hD hS 1 2 rfl rfl (vp_in_iff.mpr (by decide)) dX12_image_28 (fun H locs hP hD hS => ?_)
        have hP : va_P D vwCl [((a 1), .inl (cI, 6792, .inl zI0)), ((a 4), .inl (cZ, 2, .inl (upd zI0 0 1))), ((a 3), .inl (cJ, 2, .inr (.inr (.inr (.inr fb))))), ((a 31), .inl (cI, 6792, .inl zI0)), ((a 32), .inl (cI, 6792, .inl zI0)), ((a 0), .inr (12, zMo a (upd zI0 0 0)))] H := hP
        have hD : va_D A [((a 1), .inl (cI, 6792, .inl zI0)), ((a 4), .inl (cZ, 2, .inl (upd zI0 0 1))), ((a 3), .inl (cJ, 2, .inr (.inr (.inr (.inr fb))))), ((a 31), .inl (cI, 6792, .inl zI0)), ((a 32), .inl (cI, 6792, .inl zI0)), ((a 0), .inr (12, zMo a (upd zI0 0 0)))] := hD
        refine lv_aload_n hx hb dX12_image_29 rfl (lv_at hl 1 rfl) ?_
        refine va_get (D := D) (ci := 12) (v := .ref (a 1)) (C := RX12) (T := TX12) (N := 25) hx hb ht zinX12 hown hK hP 5 rfl rfl 1 (by decide) (ht _ zw_34) (fun _ h9 => h9) rfl dX12_image_30 ?_
        refine lv_iconst (v := 0) hx hb dX12_image_33 (by decide) ?_
        refine lv_aload_n hx hb dX12_image_34 rfl (lv_at hl 1 rfl) ?_
        refine va_get (D := D) (ci := 12) (v := .ref (a 3)) (C := RX12) (T := TX12) (N := 25) hx hb ht zinX12 hown hK hP 5 rfl rfl 3 (by decide) (ht _ zw_132) (fun _ h9 => h9) rfl dX12_image_35 ?_
        refine lv_iload_n hx hb dX12_image_38 rfl (lv_at hl 2 rfl) ?_
        refine za_aldA hx hb hK hP 2 1 rfl rfl (vp_in_iff.mpr (by decide)) dX12_image_39 ?_
        refine W.eq (g2 := F0 m 40 ls (.ref (a 31) :: .int 0 :: .ref (a 1) :: [])) (by show F0 m _ ls (va_rf (fb 0) :: _) = _; rw [hb0]; rfl) ?_
        refine lv_iconst (v := 0) hx hb dX12_image_40 (by decide) ?_
        refine lv_sipush (v := 6792) hx hb dX12_image_41 (by decide) ?_
        refine va_copyi hx hb (hml.trans hl.1.symm) hown (ht _ zw_95) (ht _ zw_96) (ht _ zw_97) (ht _ zw_98) hK hP hD hS 0 3 0 0 rfl rfl rfl rfl rfl (by decide) (by decide) (by decide) (Nat.le_of_ble_eq_true rfl) (Nat.le_of_ble_eq_true rfl) (fun _ _ => rfl) (Nat.le_of_ble_eq_true rfl) (Nat.le_of_ble_eq_true rfl) dX12_image_44 (fun H locs hP hD hS => ?_)
        have hP : va_P D vwCl [((a 1), .inl (cI, 6792, .inl zI0)), ((a 4), .inl (cZ, 2, .inl (upd zI0 0 1))), ((a 3), .inl (cJ, 2, .inr (.inr (.inr (.inr fb))))), ((a 31), .inl (cI, 6792, .inl (va_cpy zI0 zI0 0 0 6792))), ((a 32), .inl (cI, 6792, .inl zI0)), ((a 0), .inr (12, zMo a (upd zI0 0 0)))] H := hP
        have hD : va_D A [((a 1), .inl (cI, 6792, .inl zI0)), ((a 4), .inl (cZ, 2, .inl (upd zI0 0 1))), ((a 3), .inl (cJ, 2, .inr (.inr (.inr (.inr fb))))), ((a 31), .inl (cI, 6792, .inl (va_cpy zI0 zI0 0 0 6792))), ((a 32), .inl (cI, 6792, .inl zI0)), ((a 0), .inr (12, zMo a (upd zI0 0 0)))] := hD
        refine lv_iload_n hx hb dX12_image_47 rfl (lv_at hl 0 rfl) ?_
        have hP9 := hP.sub (ws' := [((a 0), .inr (12, zMo a (upd zI0 0 0)))]) [5] rfl
        have hD9 := hD.sub (ws' := [((a 0), .inr (12, zMo a (upd zI0 0 0)))]) [5] (by decide) rfl
        have hK9 := hK.sub (tys' := []) [] rfl
        refine W.widen (k := 0) (n := 0) (Nat.le_of_ble_eq_true rfl) (Nat.le_of_ble_eq_true rfl) ?_
        exact W.zret (v := 0) hx hb hr rfl (fun t ht0 hW => ⟨⟨0, upd zI0 0 0, rfl, (show zS_image 0 0 0 from (.inr ⟨rfl, by first | omega | decide, rfl⟩)), (zE_of hP9 hK9 hD9 ht0 hW)⟩, hS.F ht0⟩) hS.2.2 dX12_image_48
      · skip
        refine lv_aload_n hx hb dX12_image_15 rfl (lv_at hl 0 rfl) ?_
        refine va_get (D := D) (ci := 12) (v := .ref (a 4)) (C := RX12) (T := TX12) (N := 25) hx hb ht zinX12 hown hK hP 5 rfl rfl 4 (by decide) (ht _ zw_103) (fun _ h9 => h9) rfl dX12_image_16 ?_
        refine lv_iload_n hx hb dX12_image_19 rfl (lv_at hl 1 rfl) ?_
        refine va_zald hx hb hK hP 1 2 rfl rfl (vp_in_iff.mpr (by decide)) dX12_image_20 ?_
        refine W.eq (g2 := F0 m 21 ls (.int 0 :: [])) rfl ?_
        refine lv_istore_n (lv' := [(2, .int 0), (0, .ref (a 0)), (1, .int 1)]) hx hb dX12_image_21 rfl hl (by decide) rfl (fun ls hl => ?_)
        refine lv_aload_n hx hb dX12_image_22 rfl (lv_at hl 1 rfl) ?_
        refine va_get (D := D) (ci := 12) (v := .ref (a 4)) (C := RX12) (T := TX12) (N := 25) hx hb ht zinX12 hown hK hP 5 rfl rfl 4 (by decide) (ht _ zw_103) (fun _ h9 => h9) rfl dX12_image_23 ?_
        refine lv_iload_n hx hb dX12_image_26 rfl (lv_at hl 2 rfl) ?_
        refine lv_iconst (v := 1) hx hb dX12_image_27 (by decide) ?_
        refine va_zast hx hb hK hP hD hS 1 2 rfl rfl (vp_in_iff.mpr (by decide)) dX12_image_28 (fun H locs hP hD hS => ?_)
        have hP : va_P D vwCl [((a 1), .inl (cI, 6792, .inl zI0)), ((a 4), .inl (cZ, 2, .inl (upd zI0 1 1))), ((a 3), .inl (cJ, 2, .inr (.inr (.inr (.inr fb))))), ((a 31), .inl (cI, 6792, .inl zI0)), ((a 32), .inl (cI, 6792, .inl zI0)), ((a 0), .inr (12, zMo a (upd zI0 0 0)))] H := hP
        have hD : va_D A [((a 1), .inl (cI, 6792, .inl zI0)), ((a 4), .inl (cZ, 2, .inl (upd zI0 1 1))), ((a 3), .inl (cJ, 2, .inr (.inr (.inr (.inr fb))))), ((a 31), .inl (cI, 6792, .inl zI0)), ((a 32), .inl (cI, 6792, .inl zI0)), ((a 0), .inr (12, zMo a (upd zI0 0 0)))] := hD
        refine lv_aload_n hx hb dX12_image_29 rfl (lv_at hl 1 rfl) ?_
        refine va_get (D := D) (ci := 12) (v := .ref (a 1)) (C := RX12) (T := TX12) (N := 25) hx hb ht zinX12 hown hK hP 5 rfl rfl 1 (by decide) (ht _ zw_34) (fun _ h9 => h9) rfl dX12_image_30 ?_
        refine lv_iconst (v := 0) hx hb dX12_image_33 (by decide) ?_
        refine lv_aload_n hx hb dX12_image_34 rfl (lv_at hl 1 rfl) ?_
        refine va_get (D := D) (ci := 12) (v := .ref (a 3)) (C := RX12) (T := TX12) (N := 25) hx hb ht zinX12 hown hK hP 5 rfl rfl 3 (by decide) (ht _ zw_132) (fun _ h9 => h9) rfl dX12_image_35 ?_
        refine lv_iload_n hx hb dX12_image_38 rfl (lv_at hl 2 rfl) ?_
        refine za_aldA hx hb hK hP 2 1 rfl rfl (vp_in_iff.mpr (by decide)) dX12_image_39 ?_
        refine W.eq (g2 := F0 m 40 ls (.ref (a 32) :: .int 0 :: .ref (a 1) :: [])) (by show F0 m _ ls (va_rf (fb 1) :: _) = _; rw [hb1]; rfl) ?_
        refine lv_iconst (v := 0) hx hb dX12_image_40 (by decide) ?_
        refine lv_sipush (v := 6792) hx hb dX12_image_41 (by decide) ?_
        refine va_copyi hx hb (hml.trans hl.1.symm) hown (ht _ zw_95) (ht _ zw_96) (ht _ zw_97) (ht _ zw_98) hK hP hD hS 0 4 0 0 rfl rfl rfl rfl rfl (by decide) (by decide) (by decide) (Nat.le_of_ble_eq_true rfl) (Nat.le_of_ble_eq_true rfl) (fun _ _ => rfl) (Nat.le_of_ble_eq_true rfl) (Nat.le_of_ble_eq_true rfl) dX12_image_44 (fun H locs hP hD hS => ?_)
        have hP : va_P D vwCl [((a 1), .inl (cI, 6792, .inl zI0)), ((a 4), .inl (cZ, 2, .inl (upd zI0 1 1))), ((a 3), .inl (cJ, 2, .inr (.inr (.inr (.inr fb))))), ((a 31), .inl (cI, 6792, .inl zI0)), ((a 32), .inl (cI, 6792, .inl (va_cpy zI0 zI0 0 0 6792))), ((a 0), .inr (12, zMo a (upd zI0 0 0)))] H := hP
        have hD : va_D A [((a 1), .inl (cI, 6792, .inl zI0)), ((a 4), .inl (cZ, 2, .inl (upd zI0 1 1))), ((a 3), .inl (cJ, 2, .inr (.inr (.inr (.inr fb))))), ((a 31), .inl (cI, 6792, .inl zI0)), ((a 32), .inl (cI, 6792, .inl (va_cpy zI0 zI0 0 0 6792))), ((a 0), .inr (12, zMo a (upd zI0 0 0)))] := hD
        refine lv_iload_n hx hb dX12_image_47 rfl (lv_at hl 0 rfl) ?_
        have hP9 := hP.sub (ws' := [((a 0), .inr (12, zMo a (upd zI0 0 0)))]) [5] rfl
        have hD9 := hD.sub (ws' := [((a 0), .inr (12, zMo a (upd zI0 0 0)))]) [5] (by decide) rfl
        have hK9 := hK.sub (tys' := []) [] rfl
        refine W.widen (k := 0) (n := 0) (Nat.le_of_ble_eq_true rfl) (Nat.le_of_ble_eq_true rfl) ?_
        exact W.zret (v := 0) hx hb hr rfl (fun t ht0 hW => ⟨⟨0, upd zI0 0 0, rfl, (show zS_image 1 0 0 from (.inr ⟨rfl, by first | omega | decide, rfl⟩)), (zE_of hP9 hK9 hD9 ht0 hW)⟩, hS.F ht0⟩) hS.2.2 dX12_image_48
    · skip
      exact absurd c_3 (by decide)
  · skip
    simp only [Int32.reduceToInt] at h_1
    have hPc := hP.sub (ws' := [((a 0), .inr (12, zMo a zI0))]) [0] rfl
    have hDc := hD.sub (ws' := [((a 0), .inr (12, zMo a zI0))]) [0] (by decide) rfl
    have hKc := hK.sub (tys' := []) [] rfl
    have hFc := va_free (wc := [((a 0), .inr (12, zMo a zI0))]) hD hS hA [0] rfl
    refine va_calli (va_runV (As := [.int 0]) (rest := []) ⟨hx, hb, hml, hown, ht⟩ (k_X12_lacks l _ D a zI0 0 (by decide)) (cwV 1 ht (zG_V zw_62 zw_63 zw_64 zw_2 zw_65) rfl rfl rfl (by decide +kernel) ⟨Nat.le_of_ble_eq_true rfl, Nat.le_of_ble_eq_true rfl⟩) (zM_V (va_recv hK hP (ci := 12) (q0 := 0) rfl rfl) hPc hKc hDc) rfl rfl hl.1 rfl (lv_room (Nat.le_of_ble_eq_true rfl)) dX12_image_7 ⟨Nat.le_of_ble_eq_true rfl, Nat.le_of_ble_eq_true rfl⟩) hS (fun q _ h => hFc q h) hFc (fun r_8 u_8 t H1 locs ht0 hvm hw_8 hB hz1 hk1 hS => ?_)
    obtain ⟨rfl, rfl⟩ := hw_8.1 rfl
    obtain ⟨hP1, hK1, hD1⟩ := hB
    rw [ht0] at hP1
    have hK1 := va_K.moved hvm.symm hK1
    obtain ⟨hP, hD⟩ := va_join (wr := [((a 1), .inl (cI, 6792, .inl zI0)), ((a 4), .inl (cZ, 2, .inl zI0)), ((a 3), .inl (cJ, 2, .inr (.inr (.inr (.inr fb))))), ((a 31), .inl (cI, 6792, .inl zI0)), ((a 32), .inl (cI, 6792, .inl zI0))]) (w1 := [((a 0), .inr (12, zMo a (upd zI0 0 1)))]) hP hD [0] [1, 2, 3, 4, 5] rfl rfl (by decide) (by decide) hk1 hFc hP1 hD1
    generalize H1 = H at hP hS ⊢
    have hP : va_P D vwCl [((a 1), .inl (cI, 6792, .inl zI0)), ((a 4), .inl (cZ, 2, .inl zI0)), ((a 3), .inl (cJ, 2, .inr (.inr (.inr (.inr fb))))), ((a 31), .inl (cI, 6792, .inl zI0)), ((a 32), .inl (cI, 6792, .inl zI0)), ((a 0), .inr (12, zMo a (upd zI0 0 1)))] H := hP
    have hD : va_D A [((a 1), .inl (cI, 6792, .inl zI0)), ((a 4), .inl (cZ, 2, .inl zI0)), ((a 3), .inl (cJ, 2, .inr (.inr (.inr (.inr fb))))), ((a 31), .inl (cI, 6792, .inl zI0)), ((a 32), .inl (cI, 6792, .inl zI0)), ((a 0), .inr (12, zMo a (upd zI0 0 1)))] := hD
    refine lv_if_eq (tgt := 15) hx hb dX12_image_10 (by decide) (fun c_9 => ?_) (fun c_9 => ?_)
    · skip
      exact absurd c_9 (by decide)
    · skip
      refine lv_iconst (v := 0) hx hb dX12_image_13 (by decide) ?_
      have hP9 := hP.sub (ws' := [((a 0), .inr (12, zMo a (upd zI0 0 1)))]) [5] rfl
      have hD9 := hD.sub (ws' := [((a 0), .inr (12, zMo a (upd zI0 0 1)))]) [5] (by decide) rfl
      have hK9 := hK.sub (tys' := []) [] rfl
      refine W.widen (k := 0) (n := 0) (Nat.le_of_ble_eq_true rfl) (Nat.le_of_ble_eq_true rfl) ?_
      exact W.zret (v := 0) hx hb hr rfl (fun t ht0 hW => ⟨⟨0, upd zI0 0 1, rfl, (show zS_image p0 1 0 from (.inl ⟨rfl, by first | omega | decide⟩)), (zE_of hP9 hK9 hD9 ht0 hW)⟩, hS.F ht0⟩) hS.2.2 dX12_image_14
