theorem dX0_init_0 : decode cX0_init 0 = .ok (.aload_n 0, 1) := by decide +kernel
theorem zw_159 : Cond.methodLink RX0 3 objectInit ∈ zT := zT_of 52 (by decide +kernel) (by decide +kernel)
theorem dX0_init_1 : decode cX0_init 1 = .ok (.invokespecial 3, 3) := by decide +kernel
theorem dX0_init_4 : decode cX0_init 4 = .ok (.aload_n 0, 1) := by decide +kernel
theorem dX0_init_5 : decode cX0_init 5 = .ok (.bipush 12, 2) := by decide +kernel
theorem zw_160 : Cond.classLink RX0 9 "Chainwork$Term" ∈ zT := zT_of 53 (by decide +kernel) (by decide +kernel)
theorem zw_161 : Cond.classLink RX0 9 RX9 ∈ zT := zT_of 53 (by decide +kernel) (by decide +kernel)
theorem dX0_init_7 : decode cX0_init 7 = .ok (.anewarray 9, 3) := by decide +kernel
theorem zw_162 : Cond.laysFinal RX0 RX0 "rows" "[LChainwork$Term;" ∈ zT := zT_of 63 (by decide +kernel) (by decide +kernel)
theorem zw_163 : Cond.laysFinal RX0 RX0 "names" "[I" ∈ zT := zT_of 65 (by decide +kernel) (by decide +kernel)
theorem zw_164 : Cond.lays RX0 RX0 "count" "I" ∈ zT := zT_of 67 (by decide +kernel) (by decide +kernel)
theorem zinX0 : ∀ w ∈ u_ws RX0 TX0 3, w ∈ zT := List.forall_mem_cons.mpr ⟨zw_162, List.forall_mem_cons.mpr ⟨zw_163, List.forall_mem_cons.mpr ⟨zw_164, (fun _ h => nomatch h)⟩⟩⟩
theorem zw_165 : Cond.fieldLink RX0 11 RX0 "rows" "[LChainwork$Term;" ∈ zT := zT_of 54 (by decide +kernel) (by decide +kernel)
theorem dX0_init_10 : decode cX0_init 10 = .ok (.putfield 11, 3) := by decide +kernel
theorem dX0_init_13 : decode cX0_init 13 = .ok (.aload_n 0, 1) := by decide +kernel
theorem dX0_init_14 : decode cX0_init 14 = .ok (.bipush 12, 2) := by decide +kernel
theorem dX0_init_16 : decode cX0_init 16 = .ok (.newarray .int, 2) := by decide +kernel
theorem zw_166 : Cond.fieldLink RX0 17 RX0 "names" "[I" ∈ zT := zT_of 57 (by decide +kernel) (by decide +kernel)
theorem dX0_init_18 : decode cX0_init 18 = .ok (.putfield 17, 3) := by decide +kernel
theorem dX0_init_21 : decode cX0_init 21 = .ok (.aload_n 0, 1) := by decide +kernel
theorem dX0_init_22 : decode cX0_init 22 = .ok (.iconst 0, 1) := by decide +kernel
theorem zw_167 : Cond.fieldLink RX0 21 RX0 "count" "I" ∈ zT := zT_of 60 (by decide +kernel) (by decide +kernel)
theorem dX0_init_23 : decode cX0_init 23 = .ok (.putfield 21, 3) := by decide +kernel
theorem dX0_init_26 : decode cX0_init 26 = .ok (.return_, 1) := by decide +kernel
abbrev cX8_init : ByteArray := prog_10_method_1_code
def yX8_init : MethodName := ⟨RX8, "<init>", "()V"⟩
theorem dX8_init_0 : decode cX8_init 0 = .ok (.aload_n 0, 1) := by decide +kernel
theorem zw_168 : Cond.methodLink RX8 3 objectInit ∈ zT := zT_of 37 (by decide +kernel) (by decide +kernel)
theorem dX8_init_1 : decode cX8_init 1 = .ok (.invokespecial 3, 3) := by decide +kernel
theorem dX8_init_4 : decode cX8_init 4 = .ok (.aload_n 0, 1) := by decide +kernel
theorem dX8_init_5 : decode cX8_init 5 = .ok (.iconst 4, 1) := by decide +kernel
theorem zw_169 : Cond.classLink RX8 9 "Chainwork$Sign" ∈ zT := zT_of 38 (by decide +kernel) (by decide +kernel)
theorem zw_170 : Cond.classLink RX8 9 RX7 ∈ zT := zT_of 38 (by decide +kernel) (by decide +kernel)
theorem dX8_init_6 : decode cX8_init 6 = .ok (.anewarray 9, 3) := by decide +kernel
theorem zw_171 : Cond.laysFinal RX8 RX8 "signs" "[LChainwork$Sign;" ∈ zT := zT_of 108 (by decide +kernel) (by decide +kernel)
theorem zw_172 : Cond.lays RX8 RX8 "signCount" "I" ∈ zT := zT_of 110 (by decide +kernel) (by decide +kernel)
theorem zw_173 : Cond.laysFinal RX8 RX8 "registers" "[LChainwork$Term;" ∈ zT := zT_of 112 (by decide +kernel) (by decide +kernel)
theorem zw_174 : Cond.laysFinal RX8 RX8 "laws" "[LChainwork$Law;" ∈ zT := zT_of 114 (by decide +kernel) (by decide +kernel)
theorem zw_175 : Cond.lays RX8 RX8 "lawCount" "I" ∈ zT := zT_of 116 (by decide +kernel) (by decide +kernel)
theorem zw_176 : Cond.laysFinal RX8 RX8 "equivalences" "[LChainwork$Equivalence;" ∈ zT := zT_of 118 (by decide +kernel) (by decide +kernel)
theorem zw_177 : Cond.lays RX8 RX8 "equivalenceCount" "I" ∈ zT := zT_of 120 (by decide +kernel) (by decide +kernel)
theorem zw_178 : Cond.laysFinal RX8 RX8 "assumptions" "[LChainwork$Law;" ∈ zT := zT_of 122 (by decide +kernel) (by decide +kernel)
theorem zw_179 : Cond.lays RX8 RX8 "assumptionCount" "I" ∈ zT := zT_of 124 (by decide +kernel) (by decide +kernel)
theorem zw_180 : Cond.laysFinal RX8 RX8 "chains" "[LChainwork$Chain;" ∈ zT := zT_of 126 (by decide +kernel) (by decide +kernel)
theorem zw_181 : Cond.lays RX8 RX8 "told" "I" ∈ zT := zT_of 128 (by decide +kernel) (by decide +kernel)
theorem zinX8 : ∀ w ∈ u_ws RX8 TX8 11, w ∈ zT := List.forall_mem_cons.mpr ⟨zw_171, List.forall_mem_cons.mpr ⟨zw_172, List.forall_mem_cons.mpr ⟨zw_173, List.forall_mem_cons.mpr ⟨zw_174, List.forall_mem_cons.mpr ⟨zw_175, List.forall_mem_cons.mpr ⟨zw_176, List.forall_mem_cons.mpr ⟨zw_177, List.forall_mem_cons.mpr ⟨zw_178, List.forall_mem_cons.mpr ⟨zw_179, List.forall_mem_cons.mpr ⟨zw_180, List.forall_mem_cons.mpr ⟨zw_181, (fun _ h => nomatch h)⟩⟩⟩⟩⟩⟩⟩⟩⟩⟩⟩
theorem zw_182 : Cond.fieldLink RX8 11 RX8 "signs" "[LChainwork$Sign;" ∈ zT := zT_of 71 (by decide +kernel) (by decide +kernel)
theorem dX8_init_9 : decode cX8_init 9 = .ok (.putfield 11, 3) := by decide +kernel
theorem dX8_init_12 : decode cX8_init 12 = .ok (.aload_n 0, 1) := by decide +kernel
theorem dX8_init_13 : decode cX8_init 13 = .ok (.iconst 0, 1) := by decide +kernel
theorem zw_183 : Cond.fieldLink RX8 17 RX8 "signCount" "I" ∈ zT := zT_of 76 (by decide +kernel) (by decide +kernel)
theorem dX8_init_14 : decode cX8_init 14 = .ok (.putfield 17, 3) := by decide +kernel
theorem dX8_init_17 : decode cX8_init 17 = .ok (.aload_n 0, 1) := by decide +kernel
theorem dX8_init_18 : decode cX8_init 18 = .ok (.bipush 10, 2) := by decide +kernel
theorem zw_184 : Cond.classLink RX8 21 "Chainwork$Term" ∈ zT := zT_of 40 (by decide +kernel) (by decide +kernel)
theorem zw_185 : Cond.classLink RX8 21 RX9 ∈ zT := zT_of 40 (by decide +kernel) (by decide +kernel)
theorem dX8_init_20 : decode cX8_init 20 = .ok (.anewarray 21, 3) := by decide +kernel
theorem zw_186 : Cond.fieldLink RX8 23 RX8 "registers" "[LChainwork$Term;" ∈ zT := zT_of 80 (by decide +kernel) (by decide +kernel)
theorem dX8_init_23 : decode cX8_init 23 = .ok (.putfield 23, 3) := by decide +kernel
theorem dX8_init_26 : decode cX8_init 26 = .ok (.aload_n 0, 1) := by decide +kernel
theorem dX8_init_27 : decode cX8_init 27 = .ok (.bipush 100, 2) := by decide +kernel
theorem zw_187 : Cond.classLink RX8 27 "Chainwork$Law" ∈ zT := zT_of 42 (by decide +kernel) (by decide +kernel)
theorem zw_188 : Cond.classLink RX8 27 RX4 ∈ zT := zT_of 42 (by decide +kernel) (by decide +kernel)
theorem dX8_init_29 : decode cX8_init 29 = .ok (.anewarray 27, 3) := by decide +kernel
theorem zw_189 : Cond.fieldLink RX8 29 RX8 "laws" "[LChainwork$Law;" ∈ zT := zT_of 82 (by decide +kernel) (by decide +kernel)
theorem dX8_init_32 : decode cX8_init 32 = .ok (.putfield 29, 3) := by decide +kernel
theorem dX8_init_35 : decode cX8_init 35 = .ok (.aload_n 0, 1) := by decide +kernel
theorem dX8_init_36 : decode cX8_init 36 = .ok (.iconst 0, 1) := by decide +kernel
theorem zw_190 : Cond.fieldLink RX8 33 RX8 "lawCount" "I" ∈ zT := zT_of 87 (by decide +kernel) (by decide +kernel)
theorem dX8_init_37 : decode cX8_init 37 = .ok (.putfield 33, 3) := by decide +kernel
theorem dX8_init_40 : decode cX8_init 40 = .ok (.aload_n 0, 1) := by decide +kernel
theorem dX8_init_41 : decode cX8_init 41 = .ok (.iconst 4, 1) := by decide +kernel
theorem zw_191 : Cond.classLink RX8 36 "Chainwork$Equivalence" ∈ zT := zT_of 44 (by decide +kernel) (by decide +kernel)
theorem zw_192 : Cond.classLink RX8 36 RX2 ∈ zT := zT_of 44 (by decide +kernel) (by decide +kernel)
theorem dX8_init_42 : decode cX8_init 42 = .ok (.anewarray 36, 3) := by decide +kernel
theorem zw_193 : Cond.fieldLink RX8 38 RX8 "equivalences" "[LChainwork$Equivalence;" ∈ zT := zT_of 89 (by decide +kernel) (by decide +kernel)
theorem dX8_init_45 : decode cX8_init 45 = .ok (.putfield 38, 3) := by decide +kernel
theorem dX8_init_48 : decode cX8_init 48 = .ok (.aload_n 0, 1) := by decide +kernel
theorem dX8_init_49 : decode cX8_init 49 = .ok (.iconst 0, 1) := by decide +kernel
theorem zw_194 : Cond.fieldLink RX8 42 RX8 "equivalenceCount" "I" ∈ zT := zT_of 92 (by decide +kernel) (by decide +kernel)
theorem dX8_init_50 : decode cX8_init 50 = .ok (.putfield 42, 3) := by decide +kernel
theorem dX8_init_53 : decode cX8_init 53 = .ok (.aload_n 0, 1) := by decide +kernel
theorem dX8_init_54 : decode cX8_init 54 = .ok (.iconst 3, 1) := by decide +kernel
theorem dX8_init_55 : decode cX8_init 55 = .ok (.anewarray 27, 3) := by decide +kernel
theorem zw_195 : Cond.fieldLink RX8 45 RX8 "assumptions" "[LChainwork$Law;" ∈ zT := zT_of 95 (by decide +kernel) (by decide +kernel)
theorem dX8_init_58 : decode cX8_init 58 = .ok (.putfield 45, 3) := by decide +kernel
theorem dX8_init_61 : decode cX8_init 61 = .ok (.aload_n 0, 1) := by decide +kernel
theorem dX8_init_62 : decode cX8_init 62 = .ok (.iconst 0, 1) := by decide +kernel
theorem zw_196 : Cond.fieldLink RX8 48 RX8 "assumptionCount" "I" ∈ zT := zT_of 99 (by decide +kernel) (by decide +kernel)
theorem dX8_init_63 : decode cX8_init 63 = .ok (.putfield 48, 3) := by decide +kernel
theorem dX8_init_66 : decode cX8_init 66 = .ok (.aload_n 0, 1) := by decide +kernel
theorem dX8_init_67 : decode cX8_init 67 = .ok (.iconst 4, 1) := by decide +kernel
theorem zw_197 : Cond.classLink RX8 51 "Chainwork$Chain" ∈ zT := zT_of 46 (by decide +kernel) (by decide +kernel)
theorem zw_198 : Cond.classLink RX8 51 RX0 ∈ zT := zT_of 46 (by decide +kernel) (by decide +kernel)
theorem dX8_init_68 : decode cX8_init 68 = .ok (.anewarray 51, 3) := by decide +kernel
theorem zw_199 : Cond.fieldLink RX8 53 RX8 "chains" "[LChainwork$Chain;" ∈ zT := zT_of 103 (by decide +kernel) (by decide +kernel)
theorem dX8_init_71 : decode cX8_init 71 = .ok (.putfield 53, 3) := by decide +kernel
theorem dX8_init_74 : decode cX8_init 74 = .ok (.aload_n 0, 1) := by decide +kernel
theorem dX8_init_75 : decode cX8_init 75 = .ok (.iconst 0, 1) := by decide +kernel
theorem zw_200 : Cond.fieldLink RX8 57 RX8 "told" "I" ∈ zT := zT_of 105 (by decide +kernel) (by decide +kernel)
theorem dX8_init_76 : decode cX8_init 76 = .ok (.putfield 57, 3) := by decide +kernel
theorem zw_201 : Cond.instantiable RX0 3 ∈ zT := zT_of 48 (by decide +kernel) (by decide +kernel)
theorem zw_202 : Cond.initialized RX0 ∈ zT := zT_of 3 (by decide +kernel) (by decide +kernel)
theorem dX8_init_79 : decode cX8_init 79 = .ok (.new 51, 3) := by decide +kernel
theorem dX8_init_82 : decode cX8_init 82 = .ok (.dup, 1) := by decide +kernel
theorem zw_203 : Cond.code yX0_init cX0_init 1 none ∈ zT := zT_of 51 (by decide +kernel) (by decide +kernel)
theorem zw_204 : Cond.instanceMethod yX0_init ∈ zT := zT_of 50 (by decide +kernel) (by decide +kernel)
theorem dX8_init_83 : decode cX8_init 83 = .ok (.invokespecial 60, 3) := by decide +kernel
theorem dX8_init_86 : decode cX8_init 86 = .ok (.astore_n 1, 1) := by decide +kernel
theorem dX8_init_87 : decode cX8_init 87 = .ok (.iconst 0, 1) := by decide +kernel
theorem dX8_init_88 : decode cX8_init 88 = .ok (.istore_n 2, 1) := by decide +kernel
theorem dX8_init_89 : decode cX8_init 89 = .ok (.iload_n 2, 1) := by decide +kernel
theorem dX8_init_90 : decode cX8_init 90 = .ok (.iconst 4, 1) := by decide +kernel
theorem dX8_init_91 : decode cX8_init 91 = .ok (.if_icmp .ge 16, 3) := by decide +kernel
theorem dX8_init_94 : decode cX8_init 94 = .ok (.aload_n 0, 1) := by decide +kernel
theorem dX8_init_95 : decode cX8_init 95 = .ok (.getfield 53, 3) := by decide +kernel
theorem dX8_init_98 : decode cX8_init 98 = .ok (.iload_n 2, 1) := by decide +kernel
theorem dX8_init_99 : decode cX8_init 99 = .ok (.aload_n 1, 1) := by decide +kernel
theorem dX8_init_100 : decode cX8_init 100 = .ok (.aastore, 1) := by decide +kernel
theorem dX8_init_101 : decode cX8_init 101 = .ok (.iinc 2 1, 3) := by decide +kernel
theorem dX8_init_104 : decode cX8_init 104 = .ok (.goto (-15), 3) := by decide +kernel
theorem dX8_init_107 : decode cX8_init 107 = .ok (.return_, 1) := by decide +kernel
abbrev cX10_init : ByteArray := prog_12_method_1_code
def yX10_init : MethodName := ⟨RX10, "<init>", "(I)V"⟩
theorem dX10_init_0 : decode cX10_init 0 = .ok (.aload_n 0, 1) := by decide +kernel
theorem zw_205 : Cond.methodLink RX10 3 objectInit ∈ zT := zT_of 137 (by decide +kernel) (by decide +kernel)
theorem dX10_init_1 : decode cX10_init 1 = .ok (.invokespecial 3, 3) := by decide +kernel
theorem dX10_init_4 : decode cX10_init 4 = .ok (.aload_n 0, 1) := by decide +kernel
theorem dX10_init_5 : decode cX10_init 5 = .ok (.iconst 0, 1) := by decide +kernel
theorem zw_206 : Cond.laysFinal RX10 RX10 "bytes" "[I" ∈ zT := zT_of 149 (by decide +kernel) (by decide +kernel)
theorem zw_207 : Cond.lays RX10 RX10 "count" "I" ∈ zT := zT_of 151 (by decide +kernel) (by decide +kernel)
theorem zw_208 : Cond.laysFinal RX10 RX10 "nodes" "[I" ∈ zT := zT_of 153 (by decide +kernel) (by decide +kernel)
theorem zw_209 : Cond.lays RX10 RX10 "size" "I" ∈ zT := zT_of 155 (by decide +kernel) (by decide +kernel)
theorem zw_210 : Cond.laysFinal RX10 RX10 "missing" "[I" ∈ zT := zT_of 157 (by decide +kernel) (by decide +kernel)
theorem zw_211 : Cond.lays RX10 RX10 "depth" "I" ∈ zT := zT_of 159 (by decide +kernel) (by decide +kernel)
theorem zw_212 : Cond.lays RX10 RX10 "awaited" "I" ∈ zT := zT_of 161 (by decide +kernel) (by decide +kernel)
theorem zinX10 : ∀ w ∈ u_ws RX10 TX10 7, w ∈ zT := List.forall_mem_cons.mpr ⟨zw_206, List.forall_mem_cons.mpr ⟨zw_207, List.forall_mem_cons.mpr ⟨zw_208, List.forall_mem_cons.mpr ⟨zw_209, List.forall_mem_cons.mpr ⟨zw_210, List.forall_mem_cons.mpr ⟨zw_211, List.forall_mem_cons.mpr ⟨zw_212, (fun _ h => nomatch h)⟩⟩⟩⟩⟩⟩⟩
theorem zw_213 : Cond.fieldLink RX10 9 RX10 "count" "I" ∈ zT := zT_of 140 (by decide +kernel) (by decide +kernel)
theorem dX10_init_6 : decode cX10_init 6 = .ok (.putfield 9, 3) := by decide +kernel
theorem dX10_init_9 : decode cX10_init 9 = .ok (.aload_n 0, 1) := by decide +kernel
theorem dX10_init_10 : decode cX10_init 10 = .ok (.bipush 40, 2) := by decide +kernel
theorem dX10_init_12 : decode cX10_init 12 = .ok (.newarray .int, 2) := by decide +kernel
theorem zw_214 : Cond.fieldLink RX10 15 RX10 "nodes" "[I" ∈ zT := zT_of 142 (by decide +kernel) (by decide +kernel)
theorem dX10_init_14 : decode cX10_init 14 = .ok (.putfield 15, 3) := by decide +kernel
theorem dX10_init_17 : decode cX10_init 17 = .ok (.aload_n 0, 1) := by decide +kernel
theorem dX10_init_18 : decode cX10_init 18 = .ok (.iconst 0, 1) := by decide +kernel
theorem zw_215 : Cond.fieldLink RX10 19 RX10 "size" "I" ∈ zT := zT_of 144 (by decide +kernel) (by decide +kernel)
theorem dX10_init_19 : decode cX10_init 19 = .ok (.putfield 19, 3) := by decide +kernel
theorem dX10_init_22 : decode cX10_init 22 = .ok (.aload_n 0, 1) := by decide +kernel
theorem dX10_init_23 : decode cX10_init 23 = .ok (.bipush 40, 2) := by decide +kernel
theorem dX10_init_25 : decode cX10_init 25 = .ok (.newarray .int, 2) := by decide +kernel
theorem zw_216 : Cond.fieldLink RX10 22 RX10 "missing" "[I" ∈ zT := zT_of 146 (by decide +kernel) (by decide +kernel)
theorem dX10_init_27 : decode cX10_init 27 = .ok (.putfield 22, 3) := by decide +kernel
theorem dX10_init_30 : decode cX10_init 30 = .ok (.aload_n 0, 1) := by decide +kernel
theorem dX10_init_31 : decode cX10_init 31 = .ok (.iconst 0, 1) := by decide +kernel
theorem zw_217 : Cond.fieldLink RX10 25 RX10 "depth" "I" ∈ zT := zT_of 147 (by decide +kernel) (by decide +kernel)
theorem dX10_init_32 : decode cX10_init 32 = .ok (.putfield 25, 3) := by decide +kernel
theorem dX10_init_35 : decode cX10_init 35 = .ok (.aload_n 0, 1) := by decide +kernel
theorem dX10_init_36 : decode cX10_init 36 = .ok (.iconst 0, 1) := by decide +kernel
theorem zw_218 : Cond.fieldLink RX10 28 RX10 "awaited" "I" ∈ zT := zT_of 148 (by decide +kernel) (by decide +kernel)
theorem dX10_init_37 : decode cX10_init 37 = .ok (.putfield 28, 3) := by decide +kernel
theorem dX10_init_40 : decode cX10_init 40 = .ok (.aload_n 0, 1) := by decide +kernel
theorem dX10_init_41 : decode cX10_init 41 = .ok (.iload_n 1, 1) := by decide +kernel
theorem dX10_init_42 : decode cX10_init 42 = .ok (.newarray .int, 2) := by decide +kernel
theorem zw_219 : Cond.fieldLink RX10 31 RX10 "bytes" "[I" ∈ zT := zT_of 138 (by decide +kernel) (by decide +kernel)
theorem dX10_init_44 : decode cX10_init 44 = .ok (.putfield 31, 3) := by decide +kernel
theorem dX10_init_47 : decode cX10_init 47 = .ok (.return_, 1) := by decide +kernel
abbrev cX9_init : ByteArray := prog_11_method_1_code
def yX9_init : MethodName := ⟨RX9, "<init>", "(I)V"⟩
theorem dX9_init_0 : decode cX9_init 0 = .ok (.aload_n 0, 1) := by decide +kernel
theorem zw_220 : Cond.methodLink RX9 3 objectInit ∈ zT := zT_of 192 (by decide +kernel) (by decide +kernel)
theorem dX9_init_1 : decode cX9_init 1 = .ok (.invokespecial 3, 3) := by decide +kernel
theorem dX9_init_4 : decode cX9_init 4 = .ok (.aload_n 0, 1) := by decide +kernel
theorem dX9_init_5 : decode cX9_init 5 = .ok (.iload_n 1, 1) := by decide +kernel
theorem dX9_init_6 : decode cX9_init 6 = .ok (.newarray .int, 2) := by decide +kernel
theorem zw_221 : Cond.laysFinal RX9 RX9 "nodes" "[I" ∈ zT := zT_of 223 (by decide +kernel) (by decide +kernel)
theorem zw_222 : Cond.laysFinal RX9 RX9 "ends" "[I" ∈ zT := zT_of 225 (by decide +kernel) (by decide +kernel)
theorem zw_223 : Cond.laysFinal RX9 RX9 "directions" "[I" ∈ zT := zT_of 227 (by decide +kernel) (by decide +kernel)
theorem zw_224 : Cond.lays RX9 RX9 "size" "I" ∈ zT := zT_of 229 (by decide +kernel) (by decide +kernel)
theorem zw_225 : Cond.lays RX9 RX9 "variables" "I" ∈ zT := zT_of 231 (by decide +kernel) (by decide +kernel)
theorem zw_226 : Cond.lays RX9 RX9 "signMask" "I" ∈ zT := zT_of 233 (by decide +kernel) (by decide +kernel)
theorem zinX9 : ∀ w ∈ u_ws RX9 TX9 6, w ∈ zT := List.forall_mem_cons.mpr ⟨zw_221, List.forall_mem_cons.mpr ⟨zw_222, List.forall_mem_cons.mpr ⟨zw_223, List.forall_mem_cons.mpr ⟨zw_224, List.forall_mem_cons.mpr ⟨zw_225, List.forall_mem_cons.mpr ⟨zw_226, (fun _ h => nomatch h)⟩⟩⟩⟩⟩⟩
theorem zw_227 : Cond.fieldLink RX9 9 RX9 "nodes" "[I" ∈ zT := zT_of 193 (by decide +kernel) (by decide +kernel)
theorem dX9_init_8 : decode cX9_init 8 = .ok (.putfield 9, 3) := by decide +kernel
theorem dX9_init_11 : decode cX9_init 11 = .ok (.aload_n 0, 1) := by decide +kernel
theorem dX9_init_12 : decode cX9_init 12 = .ok (.iload_n 1, 1) := by decide +kernel
theorem dX9_init_13 : decode cX9_init 13 = .ok (.newarray .int, 2) := by decide +kernel
theorem zw_228 : Cond.fieldLink RX9 15 RX9 "ends" "[I" ∈ zT := zT_of 200 (by decide +kernel) (by decide +kernel)
theorem dX9_init_15 : decode cX9_init 15 = .ok (.putfield 15, 3) := by decide +kernel
theorem dX9_init_18 : decode cX9_init 18 = .ok (.aload_n 0, 1) := by decide +kernel
theorem dX9_init_19 : decode cX9_init 19 = .ok (.iload_n 1, 1) := by decide +kernel
theorem dX9_init_20 : decode cX9_init 20 = .ok (.newarray .int, 2) := by decide +kernel
theorem zw_229 : Cond.fieldLink RX9 18 RX9 "directions" "[I" ∈ zT := zT_of 206 (by decide +kernel) (by decide +kernel)
theorem dX9_init_22 : decode cX9_init 22 = .ok (.putfield 18, 3) := by decide +kernel
theorem dX9_init_25 : decode cX9_init 25 = .ok (.return_, 1) := by decide +kernel
theorem dX3_init_0 : decode cX3_init 0 = .ok (.aload_n 0, 1) := by decide +kernel
theorem zw_230 : Cond.methodLink RX3 3 objectInit ∈ zT := zT_of 170 (by decide +kernel) (by decide +kernel)
theorem dX3_init_1 : decode cX3_init 1 = .ok (.invokespecial 3, 3) := by decide +kernel
theorem dX3_init_4 : decode cX3_init 4 = .ok (.aload_n 0, 1) := by decide +kernel
theorem dX3_init_5 : decode cX3_init 5 = .ok (.iconst 4, 1) := by decide +kernel
theorem zw_231 : Cond.classLink RX3 9 "Chainwork$Term" ∈ zT := zT_of 171 (by decide +kernel) (by decide +kernel)
theorem zw_232 : Cond.classLink RX3 9 RX9 ∈ zT := zT_of 171 (by decide +kernel) (by decide +kernel)
theorem dX3_init_6 : decode cX3_init 6 = .ok (.anewarray 9, 3) := by decide +kernel
theorem zw_233 : Cond.laysFinal RX3 RX3 "wholes" "[LChainwork$Term;" ∈ zT := zT_of 174 (by decide +kernel) (by decide +kernel)
theorem zw_234 : Cond.laysFinal RX3 RX3 "starts" "[I" ∈ zT := zT_of 176 (by decide +kernel) (by decide +kernel)
theorem zinX3 : ∀ w ∈ u_ws RX3 TX3 2, w ∈ zT := List.forall_mem_cons.mpr ⟨zw_233, List.forall_mem_cons.mpr ⟨zw_234, (fun _ h => nomatch h)⟩⟩
theorem zw_235 : Cond.fieldLink RX3 11 RX3 "wholes" "[LChainwork$Term;" ∈ zT := zT_of 172 (by decide +kernel) (by decide +kernel)
theorem dX3_init_9 : decode cX3_init 9 = .ok (.putfield 11, 3) := by decide +kernel
theorem dX3_init_12 : decode cX3_init 12 = .ok (.aload_n 0, 1) := by decide +kernel
theorem dX3_init_13 : decode cX3_init 13 = .ok (.iconst 4, 1) := by decide +kernel
theorem dX3_init_14 : decode cX3_init 14 = .ok (.newarray .int, 2) := by decide +kernel
theorem zw_236 : Cond.fieldLink RX3 17 RX3 "starts" "[I" ∈ zT := zT_of 173 (by decide +kernel) (by decide +kernel)
theorem dX3_init_16 : decode cX3_init 16 = .ok (.putfield 17, 3) := by decide +kernel
theorem dX3_init_19 : decode cX3_init 19 = .ok (.return_, 1) := by decide +kernel
theorem dX1_init_0 : decode cX1_init 0 = .ok (.aload_n 0, 1) := by decide +kernel
theorem zw_237 : Cond.methodLink RX1 3 objectInit ∈ zT := zT_of 184 (by decide +kernel) (by decide +kernel)
theorem dX1_init_1 : decode cX1_init 1 = .ok (.invokespecial 3, 3) := by decide +kernel
theorem dX1_init_4 : decode cX1_init 4 = .ok (.aload_n 0, 1) := by decide +kernel
theorem zw_238 : Cond.classLink RX1 9 RX3 ∈ zT := zT_of 185 (by decide +kernel) (by decide +kernel)
theorem zw_239 : Cond.instantiable RX3 2 ∈ zT := zT_of 166 (by decide +kernel) (by decide +kernel)
theorem zw_240 : Cond.initialized RX3 ∈ zT := zT_of 5 (by decide +kernel) (by decide +kernel)
theorem dX1_init_5 : decode cX1_init 5 = .ok (.new 9, 3) := by decide +kernel
theorem dX1_init_8 : decode cX1_init 8 = .ok (.dup, 1) := by decide +kernel
theorem zw_241 : Cond.code yX3_init cX3_init 1 none ∈ zT := zT_of 169 (by decide +kernel) (by decide +kernel)
theorem zw_242 : Cond.instanceMethod yX3_init ∈ zT := zT_of 168 (by decide +kernel) (by decide +kernel)
theorem dX1_init_9 : decode cX1_init 9 = .ok (.invokespecial 11, 3) := by decide +kernel
theorem zw_243 : Cond.laysFinal RX1 RX1 "instance" "LChainwork$Instance;" ∈ zT := zT_of 252 (by decide +kernel) (by decide +kernel)
theorem zw_244 : Cond.laysFinal RX1 RX1 "granting" "LChainwork$Instance;" ∈ zT := zT_of 254 (by decide +kernel) (by decide +kernel)
theorem zw_245 : Cond.laysFinal RX1 RX1 "lesser" "LChainwork$Term;" ∈ zT := zT_of 256 (by decide +kernel) (by decide +kernel)
theorem zw_246 : Cond.laysFinal RX1 RX1 "greater" "LChainwork$Term;" ∈ zT := zT_of 258 (by decide +kernel) (by decide +kernel)
theorem zw_247 : Cond.lays RX1 RX1 "isForward" "Z" ∈ zT := zT_of 260 (by decide +kernel) (by decide +kernel)
theorem zw_248 : Cond.lays RX1 RX1 "place" "I" ∈ zT := zT_of 262 (by decide +kernel) (by decide +kernel)
theorem zw_249 : Cond.lays RX1 RX1 "relation" "I" ∈ zT := zT_of 264 (by decide +kernel) (by decide +kernel)
theorem zw_250 : Cond.lays RX1 RX1 "granted" "I" ∈ zT := zT_of 266 (by decide +kernel) (by decide +kernel)
theorem zw_251 : Cond.lays RX1 RX1 "wrongLine" "I" ∈ zT := zT_of 268 (by decide +kernel) (by decide +kernel)
theorem zw_252 : Cond.lays RX1 RX1 "chainRelation" "I" ∈ zT := zT_of 270 (by decide +kernel) (by decide +kernel)
theorem zw_253 : Cond.lays RX1 RX1 "chainMarks" "I" ∈ zT := zT_of 272 (by decide +kernel) (by decide +kernel)
theorem zinX1 : ∀ w ∈ u_ws RX1 TX1 11, w ∈ zT := List.forall_mem_cons.mpr ⟨zw_243, List.forall_mem_cons.mpr ⟨zw_244, List.forall_mem_cons.mpr ⟨zw_245, List.forall_mem_cons.mpr ⟨zw_246, List.forall_mem_cons.mpr ⟨zw_247, List.forall_mem_cons.mpr ⟨zw_248, List.forall_mem_cons.mpr ⟨zw_249, List.forall_mem_cons.mpr ⟨zw_250, List.forall_mem_cons.mpr ⟨zw_251, List.forall_mem_cons.mpr ⟨zw_252, List.forall_mem_cons.mpr ⟨zw_253, (fun _ h => nomatch h)⟩⟩⟩⟩⟩⟩⟩⟩⟩⟩⟩
theorem zw_254 : Cond.fieldLink RX1 12 RX1 "instance" "LChainwork$Instance;" ∈ zT := zT_of 236 (by decide +kernel) (by decide +kernel)
theorem dX1_init_12 : decode cX1_init 12 = .ok (.putfield 12, 3) := by decide +kernel
theorem dX1_init_15 : decode cX1_init 15 = .ok (.aload_n 0, 1) := by decide +kernel
theorem dX1_init_16 : decode cX1_init 16 = .ok (.new 9, 3) := by decide +kernel
theorem dX1_init_19 : decode cX1_init 19 = .ok (.dup, 1) := by decide +kernel
theorem dX1_init_20 : decode cX1_init 20 = .ok (.invokespecial 11, 3) := by decide +kernel
theorem zw_255 : Cond.fieldLink RX1 18 RX1 "granting" "LChainwork$Instance;" ∈ zT := zT_of 237 (by decide +kernel) (by decide +kernel)
theorem dX1_init_23 : decode cX1_init 23 = .ok (.putfield 18, 3) := by decide +kernel
theorem dX1_init_26 : decode cX1_init 26 = .ok (.aload_n 0, 1) := by decide +kernel
theorem zw_256 : Cond.classLink RX1 21 RX9 ∈ zT := zT_of 187 (by decide +kernel) (by decide +kernel)
theorem zw_257 : Cond.instantiable RX9 6 ∈ zT := zT_of 188 (by decide +kernel) (by decide +kernel)
theorem zw_258 : Cond.initialized RX9 ∈ zT := zT_of 7 (by decide +kernel) (by decide +kernel)
theorem dX1_init_27 : decode cX1_init 27 = .ok (.new 21, 3) := by decide +kernel
theorem dX1_init_30 : decode cX1_init 30 = .ok (.dup, 1) := by decide +kernel
theorem dX1_init_31 : decode cX1_init 31 = .ok (.sipush 1600, 3) := by decide +kernel
theorem zw_259 : Cond.code yX9_init cX9_init 2 none ∈ zT := zT_of 191 (by decide +kernel) (by decide +kernel)
theorem zw_260 : Cond.methodLink RX1 23 yX9_init ∈ zT := zT_of 189 (by decide +kernel) (by decide +kernel)
theorem zw_261 : Cond.instanceMethod yX9_init ∈ zT := zT_of 190 (by decide +kernel) (by decide +kernel)
theorem dX1_init_34 : decode cX1_init 34 = .ok (.invokespecial 23, 3) := by decide +kernel
theorem zw_262 : Cond.fieldLink RX1 26 RX1 "lesser" "LChainwork$Term;" ∈ zT := zT_of 238 (by decide +kernel) (by decide +kernel)
theorem dX1_init_37 : decode cX1_init 37 = .ok (.putfield 26, 3) := by decide +kernel
theorem dX1_init_40 : decode cX1_init 40 = .ok (.aload_n 0, 1) := by decide +kernel
theorem dX1_init_41 : decode cX1_init 41 = .ok (.new 21, 3) := by decide +kernel
theorem dX1_init_44 : decode cX1_init 44 = .ok (.dup, 1) := by decide +kernel
theorem dX1_init_45 : decode cX1_init 45 = .ok (.sipush 1600, 3) := by decide +kernel
theorem dX1_init_48 : decode cX1_init 48 = .ok (.invokespecial 23, 3) := by decide +kernel
theorem zw_263 : Cond.fieldLink RX1 30 RX1 "greater" "LChainwork$Term;" ∈ zT := zT_of 239 (by decide +kernel) (by decide +kernel)
theorem dX1_init_51 : decode cX1_init 51 = .ok (.putfield 30, 3) := by decide +kernel
theorem dX1_init_54 : decode cX1_init 54 = .ok (.aload_n 0, 1) := by decide +kernel
theorem dX1_init_55 : decode cX1_init 55 = .ok (.iconst 0, 1) := by decide +kernel
theorem zw_264 : Cond.fieldLink RX1 33 RX1 "isForward" "Z" ∈ zT := zT_of 240 (by decide +kernel) (by decide +kernel)
theorem dX1_init_56 : decode cX1_init 56 = .ok (.putfield 33, 3) := by decide +kernel
theorem dX1_init_59 : decode cX1_init 59 = .ok (.aload_n 0, 1) := by decide +kernel
theorem dX1_init_60 : decode cX1_init 60 = .ok (.iconst 0, 1) := by decide +kernel
theorem zw_265 : Cond.fieldLink RX1 37 RX1 "place" "I" ∈ zT := zT_of 242 (by decide +kernel) (by decide +kernel)
theorem dX1_init_61 : decode cX1_init 61 = .ok (.putfield 37, 3) := by decide +kernel
theorem dX1_init_64 : decode cX1_init 64 = .ok (.aload_n 0, 1) := by decide +kernel
theorem dX1_init_65 : decode cX1_init 65 = .ok (.iconst (-1), 1) := by decide +kernel
theorem zw_266 : Cond.fieldLink RX1 41 RX1 "relation" "I" ∈ zT := zT_of 244 (by decide +kernel) (by decide +kernel)
theorem dX1_init_66 : decode cX1_init 66 = .ok (.putfield 41, 3) := by decide +kernel
theorem dX1_init_69 : decode cX1_init 69 = .ok (.aload_n 0, 1) := by decide +kernel
theorem dX1_init_70 : decode cX1_init 70 = .ok (.iconst 0, 1) := by decide +kernel
theorem zw_267 : Cond.fieldLink RX1 44 RX1 "granted" "I" ∈ zT := zT_of 246 (by decide +kernel) (by decide +kernel)
theorem dX1_init_71 : decode cX1_init 71 = .ok (.putfield 44, 3) := by decide +kernel
theorem dX1_init_74 : decode cX1_init 74 = .ok (.aload_n 0, 1) := by decide +kernel
theorem dX1_init_75 : decode cX1_init 75 = .ok (.iconst (-1), 1) := by decide +kernel
theorem zw_268 : Cond.fieldLink RX1 47 RX1 "wrongLine" "I" ∈ zT := zT_of 247 (by decide +kernel) (by decide +kernel)
theorem dX1_init_76 : decode cX1_init 76 = .ok (.putfield 47, 3) := by decide +kernel
theorem dX1_init_79 : decode cX1_init 79 = .ok (.aload_n 0, 1) := by decide +kernel
theorem dX1_init_80 : decode cX1_init 80 = .ok (.iconst (-1), 1) := by decide +kernel
theorem zw_269 : Cond.fieldLink RX1 50 RX1 "chainRelation" "I" ∈ zT := zT_of 249 (by decide +kernel) (by decide +kernel)
theorem dX1_init_81 : decode cX1_init 81 = .ok (.putfield 50, 3) := by decide +kernel
theorem dX1_init_84 : decode cX1_init 84 = .ok (.aload_n 0, 1) := by decide +kernel
theorem dX1_init_85 : decode cX1_init 85 = .ok (.iconst 0, 1) := by decide +kernel
theorem zw_270 : Cond.fieldLink RX1 53 RX1 "chainMarks" "I" ∈ zT := zT_of 251 (by decide +kernel) (by decide +kernel)
theorem dX1_init_86 : decode cX1_init 86 = .ok (.putfield 53, 3) := by decide +kernel
theorem dX1_init_89 : decode cX1_init 89 = .ok (.return_, 1) := by decide +kernel
theorem dX6_init_0 : decode cX6_init 0 = .ok (.aload_n 0, 1) := by decide +kernel
theorem zw_271 : Cond.methodLink RX6 3 objectInit ∈ zT := zT_of 280 (by decide +kernel) (by decide +kernel)
theorem dX6_init_1 : decode cX6_init 1 = .ok (.invokespecial 3, 3) := by decide +kernel
theorem dX6_init_4 : decode cX6_init 4 = .ok (.aload_n 0, 1) := by decide +kernel
theorem zw_272 : Cond.classLink RX6 9 RX3 ∈ zT := zT_of 281 (by decide +kernel) (by decide +kernel)
theorem dX6_init_5 : decode cX6_init 5 = .ok (.new 9, 3) := by decide +kernel
theorem dX6_init_8 : decode cX6_init 8 = .ok (.dup, 1) := by decide +kernel
theorem dX6_init_9 : decode cX6_init 9 = .ok (.invokespecial 11, 3) := by decide +kernel
theorem zw_273 : Cond.laysFinal RX6 RX6 "instance" "LChainwork$Instance;" ∈ zT := zT_of 304 (by decide +kernel) (by decide +kernel)
theorem zw_274 : Cond.laysFinal RX6 RX6 "pool" "[I" ∈ zT := zT_of 306 (by decide +kernel) (by decide +kernel)
theorem zw_275 : Cond.laysFinal RX6 RX6 "sizes" "[I" ∈ zT := zT_of 308 (by decide +kernel) (by decide +kernel)
theorem zw_276 : Cond.laysFinal RX6 RX6 "parents" "[I" ∈ zT := zT_of 310 (by decide +kernel) (by decide +kernel)
theorem zw_277 : Cond.laysFinal RX6 RX6 "names" "[I" ∈ zT := zT_of 312 (by decide +kernel) (by decide +kernel)
theorem zw_278 : Cond.laysFinal RX6 RX6 "table" "[I" ∈ zT := zT_of 314 (by decide +kernel) (by decide +kernel)
theorem zw_279 : Cond.laysFinal RX6 RX6 "made" "[I" ∈ zT := zT_of 316 (by decide +kernel) (by decide +kernel)
theorem zw_280 : Cond.lays RX6 RX6 "madeSize" "I" ∈ zT := zT_of 318 (by decide +kernel) (by decide +kernel)
theorem zw_281 : Cond.laysFinal RX6 RX6 "current" "LChainwork$Term;" ∈ zT := zT_of 320 (by decide +kernel) (by decide +kernel)
theorem zw_282 : Cond.lays RX6 RX6 "currentIndex" "I" ∈ zT := zT_of 322 (by decide +kernel) (by decide +kernel)
theorem zw_283 : Cond.lays RX6 RX6 "count" "I" ∈ zT := zT_of 324 (by decide +kernel) (by decide +kernel)
theorem zw_284 : Cond.lays RX6 RX6 "start" "LChainwork$Term;" ∈ zT := zT_of 326 (by decide +kernel) (by decide +kernel)
theorem zw_285 : Cond.lays RX6 RX6 "goal" "LChainwork$Term;" ∈ zT := zT_of 328 (by decide +kernel) (by decide +kernel)
theorem zw_286 : Cond.lays RX6 RX6 "wanted" "I" ∈ zT := zT_of 330 (by decide +kernel) (by decide +kernel)
theorem zw_287 : Cond.lays RX6 RX6 "isFound" "Z" ∈ zT := zT_of 332 (by decide +kernel) (by decide +kernel)
theorem zw_288 : Cond.lays RX6 RX6 "goalName" "I" ∈ zT := zT_of 334 (by decide +kernel) (by decide +kernel)
theorem zw_289 : Cond.lays RX6 RX6 "isFull" "Z" ∈ zT := zT_of 336 (by decide +kernel) (by decide +kernel)
theorem zinX6 : ∀ w ∈ u_ws RX6 TX6 17, w ∈ zT := List.forall_mem_cons.mpr ⟨zw_273, List.forall_mem_cons.mpr ⟨zw_274, List.forall_mem_cons.mpr ⟨zw_275, List.forall_mem_cons.mpr ⟨zw_276, List.forall_mem_cons.mpr ⟨zw_277, List.forall_mem_cons.mpr ⟨zw_278, List.forall_mem_cons.mpr ⟨zw_279, List.forall_mem_cons.mpr ⟨zw_280, List.forall_mem_cons.mpr ⟨zw_281, List.forall_mem_cons.mpr ⟨zw_282, List.forall_mem_cons.mpr ⟨zw_283, List.forall_mem_cons.mpr ⟨zw_284, List.forall_mem_cons.mpr ⟨zw_285, List.forall_mem_cons.mpr ⟨zw_286, List.forall_mem_cons.mpr ⟨zw_287, List.forall_mem_cons.mpr ⟨zw_288, List.forall_mem_cons.mpr ⟨zw_289, (fun _ h => nomatch h)⟩⟩⟩⟩⟩⟩⟩⟩⟩⟩⟩⟩⟩⟩⟩⟩⟩
theorem zw_290 : Cond.fieldLink RX6 12 RX6 "instance" "LChainwork$Instance;" ∈ zT := zT_of 286 (by decide +kernel) (by decide +kernel)
theorem dX6_init_12 : decode cX6_init 12 = .ok (.putfield 12, 3) := by decide +kernel
theorem dX6_init_15 : decode cX6_init 15 = .ok (.aload_n 0, 1) := by decide +kernel
theorem zw_291 : Cond.constant RX6 18 40000 ∈ zT := zT_of 283 (by decide +kernel) (by decide +kernel)
theorem dX6_init_16 : decode cX6_init 16 = .ok (.ldc 18, 2) := by decide +kernel
theorem dX6_init_18 : decode cX6_init 18 = .ok (.newarray .int, 2) := by decide +kernel
theorem zw_292 : Cond.fieldLink RX6 19 RX6 "pool" "[I" ∈ zT := zT_of 287 (by decide +kernel) (by decide +kernel)
theorem dX6_init_20 : decode cX6_init 20 = .ok (.putfield 19, 3) := by decide +kernel
theorem dX6_init_23 : decode cX6_init 23 = .ok (.aload_n 0, 1) := by decide +kernel
theorem dX6_init_24 : decode cX6_init 24 = .ok (.sipush 1000, 3) := by decide +kernel
theorem dX6_init_27 : decode cX6_init 27 = .ok (.newarray .int, 2) := by decide +kernel
theorem zw_293 : Cond.fieldLink RX6 23 RX6 "sizes" "[I" ∈ zT := zT_of 288 (by decide +kernel) (by decide +kernel)
theorem dX6_init_29 : decode cX6_init 29 = .ok (.putfield 23, 3) := by decide +kernel
theorem dX6_init_32 : decode cX6_init 32 = .ok (.aload_n 0, 1) := by decide +kernel
theorem dX6_init_33 : decode cX6_init 33 = .ok (.sipush 1000, 3) := by decide +kernel
theorem dX6_init_36 : decode cX6_init 36 = .ok (.newarray .int, 2) := by decide +kernel
theorem zw_294 : Cond.fieldLink RX6 26 RX6 "parents" "[I" ∈ zT := zT_of 289 (by decide +kernel) (by decide +kernel)
theorem dX6_init_38 : decode cX6_init 38 = .ok (.putfield 26, 3) := by decide +kernel
theorem dX6_init_41 : decode cX6_init 41 = .ok (.aload_n 0, 1) := by decide +kernel
theorem dX6_init_42 : decode cX6_init 42 = .ok (.sipush 1000, 3) := by decide +kernel
theorem dX6_init_45 : decode cX6_init 45 = .ok (.newarray .int, 2) := by decide +kernel
theorem zw_295 : Cond.fieldLink RX6 29 RX6 "names" "[I" ∈ zT := zT_of 290 (by decide +kernel) (by decide +kernel)
theorem dX6_init_47 : decode cX6_init 47 = .ok (.putfield 29, 3) := by decide +kernel
theorem dX6_init_50 : decode cX6_init 50 = .ok (.aload_n 0, 1) := by decide +kernel
theorem dX6_init_51 : decode cX6_init 51 = .ok (.sipush 2048, 3) := by decide +kernel
theorem dX6_init_54 : decode cX6_init 54 = .ok (.newarray .int, 2) := by decide +kernel
theorem zw_296 : Cond.fieldLink RX6 32 RX6 "table" "[I" ∈ zT := zT_of 291 (by decide +kernel) (by decide +kernel)
theorem dX6_init_56 : decode cX6_init 56 = .ok (.putfield 32, 3) := by decide +kernel
theorem dX6_init_59 : decode cX6_init 59 = .ok (.aload_n 0, 1) := by decide +kernel
theorem dX6_init_60 : decode cX6_init 60 = .ok (.bipush 40, 2) := by decide +kernel
theorem dX6_init_62 : decode cX6_init 62 = .ok (.newarray .int, 2) := by decide +kernel
theorem zw_297 : Cond.fieldLink RX6 35 RX6 "made" "[I" ∈ zT := zT_of 292 (by decide +kernel) (by decide +kernel)
theorem dX6_init_64 : decode cX6_init 64 = .ok (.putfield 35, 3) := by decide +kernel
theorem dX6_init_67 : decode cX6_init 67 = .ok (.aload_n 0, 1) := by decide +kernel
theorem dX6_init_68 : decode cX6_init 68 = .ok (.iconst 0, 1) := by decide +kernel
theorem zw_298 : Cond.fieldLink RX6 38 RX6 "madeSize" "I" ∈ zT := zT_of 293 (by decide +kernel) (by decide +kernel)
theorem dX6_init_69 : decode cX6_init 69 = .ok (.putfield 38, 3) := by decide +kernel
theorem dX6_init_72 : decode cX6_init 72 = .ok (.aload_n 0, 1) := by decide +kernel
theorem zw_299 : Cond.classLink RX6 42 RX9 ∈ zT := zT_of 284 (by decide +kernel) (by decide +kernel)
theorem dX6_init_73 : decode cX6_init 73 = .ok (.new 42, 3) := by decide +kernel
theorem dX6_init_76 : decode cX6_init 76 = .ok (.dup, 1) := by decide +kernel
theorem dX6_init_77 : decode cX6_init 77 = .ok (.bipush 40, 2) := by decide +kernel
theorem zw_300 : Cond.methodLink RX6 44 yX9_init ∈ zT := zT_of 285 (by decide +kernel) (by decide +kernel)
theorem dX6_init_79 : decode cX6_init 79 = .ok (.invokespecial 44, 3) := by decide +kernel
theorem zw_301 : Cond.fieldLink RX6 47 RX6 "current" "LChainwork$Term;" ∈ zT := zT_of 294 (by decide +kernel) (by decide +kernel)
theorem dX6_init_82 : decode cX6_init 82 = .ok (.putfield 47, 3) := by decide +kernel
theorem dX6_init_85 : decode cX6_init 85 = .ok (.aload_n 0, 1) := by decide +kernel
theorem dX6_init_86 : decode cX6_init 86 = .ok (.iconst 0, 1) := by decide +kernel
theorem zw_302 : Cond.fieldLink RX6 51 RX6 "currentIndex" "I" ∈ zT := zT_of 295 (by decide +kernel) (by decide +kernel)
theorem dX6_init_87 : decode cX6_init 87 = .ok (.putfield 51, 3) := by decide +kernel
theorem dX6_init_90 : decode cX6_init 90 = .ok (.aload_n 0, 1) := by decide +kernel
theorem dX6_init_91 : decode cX6_init 91 = .ok (.iconst 0, 1) := by decide +kernel
theorem zw_303 : Cond.fieldLink RX6 54 RX6 "count" "I" ∈ zT := zT_of 296 (by decide +kernel) (by decide +kernel)
theorem dX6_init_92 : decode cX6_init 92 = .ok (.putfield 54, 3) := by decide +kernel
theorem dX6_init_95 : decode cX6_init 95 = .ok (.aload_n 0, 1) := by decide +kernel
theorem dX6_init_96 : decode cX6_init 96 = .ok (.aconst_null, 1) := by decide +kernel
theorem zw_304 : Cond.fieldLink RX6 57 RX6 "start" "LChainwork$Term;" ∈ zT := zT_of 297 (by decide +kernel) (by decide +kernel)
theorem dX6_init_97 : decode cX6_init 97 = .ok (.putfield 57, 3) := by decide +kernel
theorem dX6_init_100 : decode cX6_init 100 = .ok (.aload_n 0, 1) := by decide +kernel
theorem dX6_init_101 : decode cX6_init 101 = .ok (.aconst_null, 1) := by decide +kernel
theorem zw_305 : Cond.fieldLink RX6 60 RX6 "goal" "LChainwork$Term;" ∈ zT := zT_of 298 (by decide +kernel) (by decide +kernel)
theorem dX6_init_102 : decode cX6_init 102 = .ok (.putfield 60, 3) := by decide +kernel
theorem dX6_init_105 : decode cX6_init 105 = .ok (.aload_n 0, 1) := by decide +kernel
theorem dX6_init_106 : decode cX6_init 106 = .ok (.iconst 0, 1) := by decide +kernel
theorem zw_306 : Cond.fieldLink RX6 63 RX6 "wanted" "I" ∈ zT := zT_of 299 (by decide +kernel) (by decide +kernel)
theorem dX6_init_107 : decode cX6_init 107 = .ok (.putfield 63, 3) := by decide +kernel
theorem dX6_init_110 : decode cX6_init 110 = .ok (.aload_n 0, 1) := by decide +kernel
theorem dX6_init_111 : decode cX6_init 111 = .ok (.iconst 0, 1) := by decide +kernel
theorem zw_307 : Cond.fieldLink RX6 66 RX6 "isFound" "Z" ∈ zT := zT_of 300 (by decide +kernel) (by decide +kernel)
theorem dX6_init_112 : decode cX6_init 112 = .ok (.putfield 66, 3) := by decide +kernel
theorem dX6_init_115 : decode cX6_init 115 = .ok (.aload_n 0, 1) := by decide +kernel
theorem dX6_init_116 : decode cX6_init 116 = .ok (.iconst (-1), 1) := by decide +kernel
theorem zw_308 : Cond.fieldLink RX6 70 RX6 "goalName" "I" ∈ zT := zT_of 301 (by decide +kernel) (by decide +kernel)
theorem dX6_init_117 : decode cX6_init 117 = .ok (.putfield 70, 3) := by decide +kernel
theorem dX6_init_120 : decode cX6_init 120 = .ok (.aload_n 0, 1) := by decide +kernel
theorem dX6_init_121 : decode cX6_init 121 = .ok (.iconst 0, 1) := by decide +kernel
theorem zw_309 : Cond.fieldLink RX6 73 RX6 "isFull" "Z" ∈ zT := zT_of 302 (by decide +kernel) (by decide +kernel)
theorem dX6_init_122 : decode cX6_init 122 = .ok (.putfield 73, 3) := by decide +kernel
theorem dX6_init_125 : decode cX6_init 125 = .ok (.return_, 1) := by decide +kernel
theorem dX5_init_0 : decode cX5_init 0 = .ok (.aload_n 0, 1) := by decide +kernel
theorem zw_310 : Cond.methodLink RX5 3 objectInit ∈ zT := zT_of 344 (by decide +kernel) (by decide +kernel)
theorem dX5_init_1 : decode cX5_init 1 = .ok (.invokespecial 3, 3) := by decide +kernel
theorem dX5_init_4 : decode cX5_init 4 = .ok (.aload_n 0, 1) := by decide +kernel
theorem dX5_init_5 : decode cX5_init 5 = .ok (.sipush 2048, 3) := by decide +kernel
theorem dX5_init_8 : decode cX5_init 8 = .ok (.newarray .int, 2) := by decide +kernel
theorem zw_311 : Cond.laysFinal RX5 RX5 "obeying" "[I" ∈ zT := zT_of 357 (by decide +kernel) (by decide +kernel)
theorem zw_312 : Cond.laysFinal RX5 RX5 "assumed" "[I" ∈ zT := zT_of 359 (by decide +kernel) (by decide +kernel)
theorem zw_313 : Cond.laysFinal RX5 RX5 "isKnown" "[I" ∈ zT := zT_of 361 (by decide +kernel) (by decide +kernel)
theorem zw_314 : Cond.laysFinal RX5 RX5 "isFailing" "[I" ∈ zT := zT_of 363 (by decide +kernel) (by decide +kernel)
theorem zw_315 : Cond.laysFinal RX5 RX5 "stack" "[I" ∈ zT := zT_of 365 (by decide +kernel) (by decide +kernel)
theorem zw_316 : Cond.lays RX5 RX5 "stamp" "I" ∈ zT := zT_of 367 (by decide +kernel) (by decide +kernel)
theorem zw_317 : Cond.lays RX5 RX5 "limit" "I" ∈ zT := zT_of 369 (by decide +kernel) (by decide +kernel)
theorem zw_318 : Cond.lays RX5 RX5 "one" "LChainwork$Law;" ∈ zT := zT_of 371 (by decide +kernel) (by decide +kernel)
theorem zw_319 : Cond.lays RX5 RX5 "other" "LChainwork$Law;" ∈ zT := zT_of 373 (by decide +kernel) (by decide +kernel)
theorem zw_320 : Cond.lays RX5 RX5 "digits" "I" ∈ zT := zT_of 375 (by decide +kernel) (by decide +kernel)
theorem zinX5 : ∀ w ∈ u_ws RX5 TX5 10, w ∈ zT := List.forall_mem_cons.mpr ⟨zw_311, List.forall_mem_cons.mpr ⟨zw_312, List.forall_mem_cons.mpr ⟨zw_313, List.forall_mem_cons.mpr ⟨zw_314, List.forall_mem_cons.mpr ⟨zw_315, List.forall_mem_cons.mpr ⟨zw_316, List.forall_mem_cons.mpr ⟨zw_317, List.forall_mem_cons.mpr ⟨zw_318, List.forall_mem_cons.mpr ⟨zw_319, List.forall_mem_cons.mpr ⟨zw_320, (fun _ h => nomatch h)⟩⟩⟩⟩⟩⟩⟩⟩⟩⟩
theorem zw_321 : Cond.fieldLink RX5 11 RX5 "obeying" "[I" ∈ zT := zT_of 345 (by decide +kernel) (by decide +kernel)
theorem dX5_init_10 : decode cX5_init 10 = .ok (.putfield 11, 3) := by decide +kernel
theorem dX5_init_13 : decode cX5_init 13 = .ok (.aload_n 0, 1) := by decide +kernel
theorem dX5_init_14 : decode cX5_init 14 = .ok (.sipush 2048, 3) := by decide +kernel
theorem dX5_init_17 : decode cX5_init 17 = .ok (.newarray .int, 2) := by decide +kernel
theorem zw_322 : Cond.fieldLink RX5 15 RX5 "assumed" "[I" ∈ zT := zT_of 347 (by decide +kernel) (by decide +kernel)
theorem dX5_init_19 : decode cX5_init 19 = .ok (.putfield 15, 3) := by decide +kernel
theorem dX5_init_22 : decode cX5_init 22 = .ok (.aload_n 0, 1) := by decide +kernel
theorem dX5_init_23 : decode cX5_init 23 = .ok (.sipush 2048, 3) := by decide +kernel
theorem dX5_init_26 : decode cX5_init 26 = .ok (.newarray .int, 2) := by decide +kernel
theorem zw_323 : Cond.fieldLink RX5 18 RX5 "isKnown" "[I" ∈ zT := zT_of 349 (by decide +kernel) (by decide +kernel)
theorem dX5_init_28 : decode cX5_init 28 = .ok (.putfield 18, 3) := by decide +kernel
theorem dX5_init_31 : decode cX5_init 31 = .ok (.aload_n 0, 1) := by decide +kernel
theorem dX5_init_32 : decode cX5_init 32 = .ok (.sipush 2048, 3) := by decide +kernel
theorem dX5_init_35 : decode cX5_init 35 = .ok (.newarray .int, 2) := by decide +kernel
theorem zw_324 : Cond.fieldLink RX5 21 RX5 "isFailing" "[I" ∈ zT := zT_of 350 (by decide +kernel) (by decide +kernel)
theorem dX5_init_37 : decode cX5_init 37 = .ok (.putfield 21, 3) := by decide +kernel
theorem dX5_init_40 : decode cX5_init 40 = .ok (.aload_n 0, 1) := by decide +kernel
theorem dX5_init_41 : decode cX5_init 41 = .ok (.bipush 40, 2) := by decide +kernel
theorem dX5_init_43 : decode cX5_init 43 = .ok (.newarray .int, 2) := by decide +kernel
theorem zw_325 : Cond.fieldLink RX5 24 RX5 "stack" "[I" ∈ zT := zT_of 351 (by decide +kernel) (by decide +kernel)
theorem dX5_init_45 : decode cX5_init 45 = .ok (.putfield 24, 3) := by decide +kernel
theorem dX5_init_48 : decode cX5_init 48 = .ok (.aload_n 0, 1) := by decide +kernel
theorem dX5_init_49 : decode cX5_init 49 = .ok (.iconst (-1), 1) := by decide +kernel
theorem zw_326 : Cond.fieldLink RX5 27 RX5 "stamp" "I" ∈ zT := zT_of 352 (by decide +kernel) (by decide +kernel)
theorem dX5_init_50 : decode cX5_init 50 = .ok (.putfield 27, 3) := by decide +kernel
theorem dX5_init_53 : decode cX5_init 53 = .ok (.aload_n 0, 1) := by decide +kernel
theorem dX5_init_54 : decode cX5_init 54 = .ok (.iconst 1, 1) := by decide +kernel
theorem zw_327 : Cond.fieldLink RX5 31 RX5 "limit" "I" ∈ zT := zT_of 353 (by decide +kernel) (by decide +kernel)
theorem dX5_init_55 : decode cX5_init 55 = .ok (.putfield 31, 3) := by decide +kernel
theorem dX5_init_58 : decode cX5_init 58 = .ok (.aload_n 0, 1) := by decide +kernel
theorem dX5_init_59 : decode cX5_init 59 = .ok (.aconst_null, 1) := by decide +kernel
theorem zw_328 : Cond.fieldLink RX5 34 RX5 "one" "LChainwork$Law;" ∈ zT := zT_of 354 (by decide +kernel) (by decide +kernel)
theorem dX5_init_60 : decode cX5_init 60 = .ok (.putfield 34, 3) := by decide +kernel
theorem dX5_init_63 : decode cX5_init 63 = .ok (.aload_n 0, 1) := by decide +kernel
theorem dX5_init_64 : decode cX5_init 64 = .ok (.aconst_null, 1) := by decide +kernel
theorem zw_329 : Cond.fieldLink RX5 38 RX5 "other" "LChainwork$Law;" ∈ zT := zT_of 355 (by decide +kernel) (by decide +kernel)
theorem dX5_init_65 : decode cX5_init 65 = .ok (.putfield 38, 3) := by decide +kernel
theorem dX5_init_68 : decode cX5_init 68 = .ok (.aload_n 0, 1) := by decide +kernel
theorem dX5_init_69 : decode cX5_init 69 = .ok (.iconst 0, 1) := by decide +kernel
theorem zw_330 : Cond.fieldLink RX5 41 RX5 "digits" "I" ∈ zT := zT_of 356 (by decide +kernel) (by decide +kernel)
theorem dX5_init_70 : decode cX5_init 70 = .ok (.putfield 41, 3) := by decide +kernel
theorem dX5_init_73 : decode cX5_init 73 = .ok (.return_, 1) := by decide +kernel
theorem zXw_fb {X : State → Prop} (hX : ∀ u U : State, u.WarmedH U.vm → X u → X U) (av : List Value) (D : va_G) (ws : va_W) (tys : List (ClassId × FieldType)) (sz : Nat) : FrameBlind (va_Pc av (zX X D ws tys sz)) := fun a U g mk q => by
  obtain ⟨q0, qX, q1, qP, qK, qD⟩ := q
  exact ⟨q0, hX U (U.calling g mk a) (State.WarmedH.refl U) qX, q1, qP, va_K.moved (u := U) (U := U.calling g mk a) (Vm.Alike.refl U.vm) qK, qD⟩
theorem zXw_S {X : State → Prop} (hX : ∀ u U : State, u.WarmedH U.vm → X u → X U) {s : State} {H : Heap} {As : List Value} {D : va_G} {ws : va_W} {tys : List (ClassId × FieldType)} {A : Nat → Prop} (hx : X s) (hP : va_P D vwCl ws H) (hK : va_K D vwCl tys s) (hD : va_D A ws) : PreS s H (va_Pc As (zX X D ws tys H.size)) As := ⟨zXw_fb hX _ _ _ _ _, fun U hU hW => ⟨rfl, hX s U hW hx, by rw [hU], by rw [hU]; exact hP, va_K.moved hW.alike hK, hD.weaken (fun _ _ _ _ => trivial)⟩⟩
theorem zXw_I {X : State → Prop} (hX : ∀ u U : State, u.WarmedH U.vm → X u → X U) {s : State} {H : Heap} {b : Addr} {As : List Value} {D : va_G} {ws : va_W} {tys : List (ClassId × FieldType)} {A : Nat → Prop} (hx : X s) (hP : va_P D vwCl ws H) (hK : va_K D vwCl tys s) (hD : va_D A ws) : PreS s H (va_Pc (.ref b :: As) (zX X D ws tys H.size)) (.ref b :: As) := zXw_S hX hx hP hK hD
theorem zXw_V {X : State → Prop} (hX : ∀ u U : State, u.WarmedH U.vm → X u → X U) {s : State} {H : Heap} {C : String} {b : Addr} {As : List Value} {D : va_G} {ws : va_W} {tys : List (ClassId × FieldType)} {A : Nat → Prop} (hr : ∃ cellB : Cell, H[b]? = some cellB ∧ cellB.vm.isStatics = false ∧ s.vm.findClass C = some cellB.cls) (hx : X s) (hP : va_P D vwCl ws H) (hK : va_K D vwCl tys s) (hD : va_D A ws) : PreV s H C b (va_Pc (.ref b :: As) (zX X D ws tys H.size)) As := ⟨zXw_fb hX _ _ _ _ _, hr, fun U hU hW => ⟨rfl, hX s U hW hx, by rw [hU], by rw [hU]; exact hP, va_K.moved hW.alike hK, hD.weaken (fun _ _ _ _ => trivial)⟩⟩

set_option maxHeartbeats 4000000 in
set_option maxRecDepth 100000 in
theorem k_X0_init (l : Launch) (sz : Nat) (D : va_G) (b : Nat) : Met l yX0_init (.code yX0_init cX0_init 1 none :: zT) ({ frames := 1, cells := 2, slots := 24, locals := 12 }) (va_Pc [.ref b] (zX zTab D [(b, .inr (0, [.null, .null, .int 0]))] [] sz)) (va_Qv (fun (_ : Unit) => True) (fun _ t => ∃ (q1 : Nat) (q2 : Nat), zE D [(b, .inr (0, [.ref q1, .ref q2, .int 0]))] [] (va_A [(b, .inr (0, [.null, .null, .int 0]))] sz) t) (va_A [(b, .inr (0, [.null, .null, .int 0]))] sz)) 2 24 (va_A [(b, .inr (0, [.null, .null, .int 0]))] sz) := by
  refine Met.ofW (cc := cX0_init) (maxL := 1) (ret := none) (by decide) rfl ?_
  intro p e s m args below meth c s₁ B hml hv
  obtain ⟨rfl, hX, hsz, hP, hK, hD0⟩ := hv
  have hx := B.exec
  have hb := B.bytes
  have hr := B.returns
  have hts := atoms_spec (ws := (.code yX0_init cX0_init 1 none :: zT)) B.pre
  have ht : ∀ w ∈ zT, w.before _ s = true := fun w h => hts w (List.mem_cons_of_mem _ h)
  have hown : s.vm.findClass RX0 = some m.cls := findClass_of_methodNamed B.named
  have hlocks := B.notSynchronized
  have hin : meth.name = "<init>" := (name_of_methodNamed B.named B.method).1
  subst hsz
  have hD := hD0.self (sz := s.heap.size)
  generalize hAe : va_A [(b, .inr (0, [.null, .null, .int 0]))] s.heap.size = A at hD ⊢
  have hA : ∀ q : Nat, s.heap.size ≤ q → A q := fun q h => by rw [← hAe]; exact Or.inr h
  have hS : va_S A s.heap s.heap [] := va_S.rf
  have hP : va_P D vwCl [(b, .inr (0, [.null, .null, .int 0]))] s.heap := hP
  have hl := lv_entry ([.ref b]) (n := 1) (Nat.le_of_ble_eq_true rfl)
  rw [lg_entry_eq]
  generalize (lg_sl ([.ref b]) ++ List.replicate (1 - (lg_sl ([.ref b])).length) Slot.unset).toArray = ls at hl ⊢
  have hl : lv_has ls 1 [(0, .ref b)] := hl
  skip
  refine lv_aload_n hx hb dX0_init_0 rfl (lv_at hl 0 rfl) ?_
  refine W.objInit hx hb hown (ht _ zw_159) (ht _ zw_145) (ht _ zw_146) rfl (by rw [hml]; exact hl.1) rfl dX0_init_1 (Nat.le_of_ble_eq_true rfl) (Nat.le_of_ble_eq_true rfl) ?_
  refine W.eq (g2 := F0 m 4 ls []) rfl ?_
  refine lv_aload_n hx hb dX0_init_4 rfl (lv_at hl 0 rfl) ?_
  refine lv_bipush (v := 12) hx hb dX0_init_5 (by decide) ?_
  refine va_newq (C := RX9) hx hb hown (ht _ zw_161) (hX.2.1 _ (by decide +kernel)) hK hP hD hS hA (by decide) rfl (Nat.le_of_ble_eq_true rfl) (Nat.le_of_ble_eq_true rfl) (Nat.le_of_ble_eq_true rfl) dX0_init_7 (fun q_1 cA_1 H hK hP hD hS => ?_)
  have hP : va_P D vwCl [(b, .inr (0, [.null, .null, .int 0])), (q_1, .inl (cA_1, 12, .inr (.inr (.inr (.inr (fun _ => none))))))] H := hP
  have hD : va_D A [(b, .inr (0, [.null, .null, .int 0])), (q_1, .inl (cA_1, 12, .inr (.inr (.inr (.inr (fun _ => none))))))] := hD
  have hK : va_K D vwCl [(cA_1, .object RX9)] s := hK
  refine W.widen (k := 1) (n := 12) (Nat.le_of_ble_eq_true rfl) (Nat.le_of_ble_eq_true rfl) ?_
  refine va_putF (D := D) (ci := 0) (v := .ref q_1) (ty := .array (.object "Chainwork$Term")) (C := RX0) (T := TX0) (N := 3) hx hb ht zinX0 tyX0 tyX0_ok nmX0 hown hK hP hD hS 0 rfl rfl 0 (by decide) (ht _ zw_165) (fun _ h9 => h9) rfl hin rfl (by decide +kernel) rfl rfl (Nat.le_of_ble_eq_true rfl) dX0_init_10 (fun H locs hP hD hS => ?_)
  have hP : va_P D vwCl [(b, .inr (0, [.ref q_1, .null, .int 0])), (q_1, .inl (cA_1, 12, .inr (.inr (.inr (.inr (fun _ => none))))))] H := hP
  have hD : va_D A [(b, .inr (0, [.ref q_1, .null, .int 0])), (q_1, .inl (cA_1, 12, .inr (.inr (.inr (.inr (fun _ => none))))))] := hD
  refine lv_aload_n hx hb dX0_init_13 rfl (lv_at hl 0 rfl) ?_
  refine lv_bipush (v := 12) hx hb dX0_init_14 (by decide) ?_
  refine va_newa (atype := .int) (a0 := (12, .inl (fun _ => 0))) hx hb (ht _ zw_108) rfl hK hP hD hS hA (fun _ => rfl) (by decide) rfl (Nat.le_of_ble_eq_true rfl) (Nat.le_of_ble_eq_true rfl) (Nat.le_of_ble_eq_true rfl) dX0_init_16 (fun q_2 cA_2 H hK hP hD hS => ?_)
  have hP : va_P D vwCl [(b, .inr (0, [.ref q_1, .null, .int 0])), (q_1, .inl (cA_1, 12, .inr (.inr (.inr (.inr (fun _ => none)))))), (q_2, .inl (cA_2, 12, .inl (fun _ => 0)))] H := hP
  have hD : va_D A [(b, .inr (0, [.ref q_1, .null, .int 0])), (q_1, .inl (cA_1, 12, .inr (.inr (.inr (.inr (fun _ => none)))))), (q_2, .inl (cA_2, 12, .inl (fun _ => 0)))] := hD
  have hK : va_K D vwCl [(cA_1, .object RX9), (cA_2, .int)] s := hK
  refine W.widen (k := 2) (n := 24) (Nat.le_of_ble_eq_true rfl) (Nat.le_of_ble_eq_true rfl) ?_
  refine va_putF (D := D) (ci := 0) (v := .ref q_2) (ty := .array .int) (C := RX0) (T := TX0) (N := 3) hx hb ht zinX0 tyX0 tyX0_ok nmX0 hown hK hP hD hS 0 rfl rfl 1 (by decide) (ht _ zw_166) (fun _ h9 => h9) rfl hin rfl (by decide +kernel) rfl rfl (Nat.le_of_ble_eq_true rfl) dX0_init_18 (fun H locs hP hD hS => ?_)
  have hP : va_P D vwCl [(b, .inr (0, [.ref q_1, .ref q_2, .int 0])), (q_1, .inl (cA_1, 12, .inr (.inr (.inr (.inr (fun _ => none)))))), (q_2, .inl (cA_2, 12, .inl (fun _ => 0)))] H := hP
  have hD : va_D A [(b, .inr (0, [.ref q_1, .ref q_2, .int 0])), (q_1, .inl (cA_1, 12, .inr (.inr (.inr (.inr (fun _ => none)))))), (q_2, .inl (cA_2, 12, .inl (fun _ => 0)))] := hD
  refine lv_aload_n hx hb dX0_init_21 rfl (lv_at hl 0 rfl) ?_
  refine lv_iconst (v := 0) hx hb dX0_init_22 (by decide) ?_
  refine va_put (D := D) (ci := 0) (v := .int 0) (ty := .int) (C := RX0) (T := TX0) (N := 3) hx hb ht zinX0 tyX0 tyX0_ok nmX0 hown hK hP hD hS 0 rfl rfl 2 (by decide) (ht _ zw_167) (fun _ h9 => h9) rfl (by decide +kernel) rfl rfl (Nat.le_of_ble_eq_true rfl) dX0_init_23 (fun H locs hP hD hS => ?_)
  have hP : va_P D vwCl [(b, .inr (0, [.ref q_1, .ref q_2, .int 0])), (q_1, .inl (cA_1, 12, .inr (.inr (.inr (.inr (fun _ => none)))))), (q_2, .inl (cA_2, 12, .inl (fun _ => 0)))] H := hP
  have hD : va_D A [(b, .inr (0, [.ref q_1, .ref q_2, .int 0])), (q_1, .inl (cA_1, 12, .inr (.inr (.inr (.inr (fun _ => none)))))), (q_2, .inl (cA_2, 12, .inl (fun _ => 0)))] := hD
  have hP9 := hP.sub (ws' := [(b, .inr (0, [.ref q_1, .ref q_2, .int 0]))]) [0] rfl
  have hD9 := hD.sub (ws' := [(b, .inr (0, [.ref q_1, .ref q_2, .int 0]))]) [0] (by decide) rfl
  have hK9 := hK.sub (tys' := []) [] rfl
  refine W.widen (k := 2) (n := 24) (Nat.le_of_ble_eq_true rfl) (Nat.le_of_ble_eq_true rfl) ?_
  exact W.vret hx hb hr (fun t ht0 hW => ⟨⟨(), rfl, trivial, q_1, q_2, zE_of hP9 hK9 hD9 ht0 hW⟩, hS.F ht0⟩) hS.2.2 dX0_init_26
set_option maxHeartbeats 4000000 in
set_option maxRecDepth 100000 in
theorem k_X8_init (l : Launch) (sz : Nat) (D : va_G) (b : Nat) : Met l yX8_init (.code yX8_init cX8_init 3 none :: zT) ({ frames := 2, cells := 9, slots := 152, locals := 32 }) (va_Pc [.ref b] (zX zTab D [(b, .inr (8, [.null, .int 0, .null, .null, .int 0, .null, .int 0, .null, .int 0, .null, .int 0]))] [] sz)) (va_Qv (fun (_ : Unit) => True) (fun _ t => ∃ (q1 : Nat) (q2 : Nat) (q3 : Nat) (q4 : Nat) (q5 : Nat) (q6 : Nat) (qe : Nat) (q7 : Nat) (q8 : Nat) (f : Nat → Option Nat) (c7 : ClassId) (c9 : ClassId) (c4 : ClassId) (c2 : ClassId) (c0 : ClassId), (∀ k : Nat, k < 4 → f k = some qe) ∧ zE D [(b, .inr (8, [.ref q1, .int 0, .ref q2, .ref q3, .int 0, .ref q4, .int 0, .ref q5, .int 0, .ref q6, .int 0])), (q1, .inl (c7, 4, .inr (.inr (.inr (.inr (fun _ => none)))))), (q2, .inl (c9, 10, .inr (.inr (.inr (.inr (fun _ => none)))))), (q3, .inl (c4, 100, .inr (.inr (.inr (.inr (fun _ => none)))))), (q4, .inl (c2, 4, .inr (.inr (.inr (.inr (fun _ => none)))))), (q5, .inl (c4, 3, .inr (.inr (.inr (.inr (fun _ => none)))))), (q6, .inl (c0, 4, .inr (.inr (.inr (.inr f))))), (qe, .inr (0, [.ref q7, .ref q8, .int 0]))] [(c7, .object RX7), (c9, .object RX9), (c4, .object RX4), (c2, .object RX2), (c0, .object RX0)] (va_A [(b, .inr (8, [.null, .int 0, .null, .null, .int 0, .null, .int 0, .null, .int 0, .null, .int 0]))] sz) t) (va_A [(b, .inr (8, [.null, .int 0, .null, .null, .int 0, .null, .int 0, .null, .int 0, .null, .int 0]))] sz)) 9 152 (va_A [(b, .inr (8, [.null, .int 0, .null, .null, .int 0, .null, .int 0, .null, .int 0, .null, .int 0]))] sz) := by
  refine Met.ofW (cc := cX8_init) (maxL := 3) (ret := none) (by decide) rfl ?_
  intro p e s m args below meth c s₁ B hml hv
  obtain ⟨rfl, hX, hsz, hP, hK, hD0⟩ := hv
  have hx := B.exec
  have hb := B.bytes
  have hr := B.returns
  have hts := atoms_spec (ws := (.code yX8_init cX8_init 3 none :: zT)) B.pre
  have ht : ∀ w ∈ zT, w.before _ s = true := fun w h => hts w (List.mem_cons_of_mem _ h)
  have hown : s.vm.findClass RX8 = some m.cls := findClass_of_methodNamed B.named
  have hlocks := B.notSynchronized
  have hin : meth.name = "<init>" := (name_of_methodNamed B.named B.method).1
  subst hsz
  have hD := hD0.self (sz := s.heap.size)
  generalize hAe : va_A [(b, .inr (8, [.null, .int 0, .null, .null, .int 0, .null, .int 0, .null, .int 0, .null, .int 0]))] s.heap.size = A at hD ⊢
  have hA : ∀ q : Nat, s.heap.size ≤ q → A q := fun q h => by rw [← hAe]; exact Or.inr h
  have hS : va_S A s.heap s.heap [] := va_S.rf
  have hP : va_P D vwCl [(b, .inr (8, [.null, .int 0, .null, .null, .int 0, .null, .int 0, .null, .int 0, .null, .int 0]))] s.heap := hP
  have hl := lv_entry ([.ref b]) (n := 3) (Nat.le_of_ble_eq_true rfl)
  rw [lg_entry_eq]
  generalize (lg_sl ([.ref b]) ++ List.replicate (3 - (lg_sl ([.ref b])).length) Slot.unset).toArray = ls at hl ⊢
  have hl : lv_has ls 3 [(0, .ref b)] := hl
  skip
  refine lv_aload_n hx hb dX8_init_0 rfl (lv_at hl 0 rfl) ?_
  refine W.objInit hx hb hown (ht _ zw_168) (ht _ zw_145) (ht _ zw_146) rfl (by rw [hml]; exact hl.1) rfl dX8_init_1 (Nat.le_of_ble_eq_true rfl) (Nat.le_of_ble_eq_true rfl) ?_
  refine W.eq (g2 := F0 m 4 ls []) rfl ?_
  refine lv_aload_n hx hb dX8_init_4 rfl (lv_at hl 0 rfl) ?_
  refine lv_iconst (v := 4) hx hb dX8_init_5 (by decide) ?_
  refine va_newq (C := RX7) hx hb hown (ht _ zw_170) (hX.2.1 _ (by decide +kernel)) hK hP hD hS hA (by decide) rfl (Nat.le_of_ble_eq_true rfl) (Nat.le_of_ble_eq_true rfl) (Nat.le_of_ble_eq_true rfl) dX8_init_6 (fun q_1 cA_1 H hK hP hD hS => ?_)
  have hP : va_P D vwCl [(b, .inr (8, [.null, .int 0, .null, .null, .int 0, .null, .int 0, .null, .int 0, .null, .int 0])), (q_1, .inl (cA_1, 4, .inr (.inr (.inr (.inr (fun _ => none))))))] H := hP
  have hD : va_D A [(b, .inr (8, [.null, .int 0, .null, .null, .int 0, .null, .int 0, .null, .int 0, .null, .int 0])), (q_1, .inl (cA_1, 4, .inr (.inr (.inr (.inr (fun _ => none))))))] := hD
  have hK : va_K D vwCl [(cA_1, .object RX7)] s := hK
  refine W.widen (k := 1) (n := 4) (Nat.le_of_ble_eq_true rfl) (Nat.le_of_ble_eq_true rfl) ?_
  refine va_putF (D := D) (ci := 8) (v := .ref q_1) (ty := .array (.object "Chainwork$Sign")) (C := RX8) (T := TX8) (N := 11) hx hb ht zinX8 tyX8 tyX8_ok nmX8 hown hK hP hD hS 0 rfl rfl 0 (by decide) (ht _ zw_182) (fun _ h9 => h9) rfl hin rfl (by decide +kernel) rfl rfl (Nat.le_of_ble_eq_true rfl) dX8_init_9 (fun H locs hP hD hS => ?_)
  have hP : va_P D vwCl [(b, .inr (8, [.ref q_1, .int 0, .null, .null, .int 0, .null, .int 0, .null, .int 0, .null, .int 0])), (q_1, .inl (cA_1, 4, .inr (.inr (.inr (.inr (fun _ => none))))))] H := hP
  have hD : va_D A [(b, .inr (8, [.ref q_1, .int 0, .null, .null, .int 0, .null, .int 0, .null, .int 0, .null, .int 0])), (q_1, .inl (cA_1, 4, .inr (.inr (.inr (.inr (fun _ => none))))))] := hD
  refine lv_aload_n hx hb dX8_init_12 rfl (lv_at hl 0 rfl) ?_
  refine lv_iconst (v := 0) hx hb dX8_init_13 (by decide) ?_
  refine va_put (D := D) (ci := 8) (v := .int 0) (ty := .int) (C := RX8) (T := TX8) (N := 11) hx hb ht zinX8 tyX8 tyX8_ok nmX8 hown hK hP hD hS 0 rfl rfl 1 (by decide) (ht _ zw_183) (fun _ h9 => h9) rfl (by decide +kernel) rfl rfl (Nat.le_of_ble_eq_true rfl) dX8_init_14 (fun H locs hP hD hS => ?_)
  have hP : va_P D vwCl [(b, .inr (8, [.ref q_1, .int 0, .null, .null, .int 0, .null, .int 0, .null, .int 0, .null, .int 0])), (q_1, .inl (cA_1, 4, .inr (.inr (.inr (.inr (fun _ => none))))))] H := hP
  have hD : va_D A [(b, .inr (8, [.ref q_1, .int 0, .null, .null, .int 0, .null, .int 0, .null, .int 0, .null, .int 0])), (q_1, .inl (cA_1, 4, .inr (.inr (.inr (.inr (fun _ => none))))))] := hD
  refine lv_aload_n hx hb dX8_init_17 rfl (lv_at hl 0 rfl) ?_
  refine lv_bipush (v := 10) hx hb dX8_init_18 (by decide) ?_
  refine va_newq (C := RX9) hx hb hown (ht _ zw_185) (hX.2.1 _ (by decide +kernel)) hK hP hD hS hA (by decide) rfl (Nat.le_of_ble_eq_true rfl) (Nat.le_of_ble_eq_true rfl) (Nat.le_of_ble_eq_true rfl) dX8_init_20 (fun q_2 cA_2 H hK hP hD hS => ?_)
  have hP : va_P D vwCl [(b, .inr (8, [.ref q_1, .int 0, .null, .null, .int 0, .null, .int 0, .null, .int 0, .null, .int 0])), (q_1, .inl (cA_1, 4, .inr (.inr (.inr (.inr (fun _ => none)))))), (q_2, .inl (cA_2, 10, .inr (.inr (.inr (.inr (fun _ => none))))))] H := hP
  have hD : va_D A [(b, .inr (8, [.ref q_1, .int 0, .null, .null, .int 0, .null, .int 0, .null, .int 0, .null, .int 0])), (q_1, .inl (cA_1, 4, .inr (.inr (.inr (.inr (fun _ => none)))))), (q_2, .inl (cA_2, 10, .inr (.inr (.inr (.inr (fun _ => none))))))] := hD
  have hK : va_K D vwCl [(cA_1, .object RX7), (cA_2, .object RX9)] s := hK
  refine W.widen (k := 2) (n := 14) (Nat.le_of_ble_eq_true rfl) (Nat.le_of_ble_eq_true rfl) ?_
  refine va_putF (D := D) (ci := 8) (v := .ref q_2) (ty := .array (.object "Chainwork$Term")) (C := RX8) (T := TX8) (N := 11) hx hb ht zinX8 tyX8 tyX8_ok nmX8 hown hK hP hD hS 0 rfl rfl 2 (by decide) (ht _ zw_186) (fun _ h9 => h9) rfl hin rfl (by decide +kernel) rfl rfl (Nat.le_of_ble_eq_true rfl) dX8_init_23 (fun H locs hP hD hS => ?_)
  have hP : va_P D vwCl [(b, .inr (8, [.ref q_1, .int 0, .ref q_2, .null, .int 0, .null, .int 0, .null, .int 0, .null, .int 0])), (q_1, .inl (cA_1, 4, .inr (.inr (.inr (.inr (fun _ => none)))))), (q_2, .inl (cA_2, 10, .inr (.inr (.inr (.inr (fun _ => none))))))] H := hP
  have hD : va_D A [(b, .inr (8, [.ref q_1, .int 0, .ref q_2, .null, .int 0, .null, .int 0, .null, .int 0, .null, .int 0])), (q_1, .inl (cA_1, 4, .inr (.inr (.inr (.inr (fun _ => none)))))), (q_2, .inl (cA_2, 10, .inr (.inr (.inr (.inr (fun _ => none))))))] := hD
  refine lv_aload_n hx hb dX8_init_26 rfl (lv_at hl 0 rfl) ?_
  refine lv_bipush (v := 100) hx hb dX8_init_27 (by decide) ?_
  refine va_newq (C := RX4) hx hb hown (ht _ zw_188) (hX.2.1 _ (by decide +kernel)) hK hP hD hS hA (by decide) rfl (Nat.le_of_ble_eq_true rfl) (Nat.le_of_ble_eq_true rfl) (Nat.le_of_ble_eq_true rfl) dX8_init_29 (fun q_3 cA_3 H hK hP hD hS => ?_)
  have hP : va_P D vwCl [(b, .inr (8, [.ref q_1, .int 0, .ref q_2, .null, .int 0, .null, .int 0, .null, .int 0, .null, .int 0])), (q_1, .inl (cA_1, 4, .inr (.inr (.inr (.inr (fun _ => none)))))), (q_2, .inl (cA_2, 10, .inr (.inr (.inr (.inr (fun _ => none)))))), (q_3, .inl (cA_3, 100, .inr (.inr (.inr (.inr (fun _ => none))))))] H := hP
  have hD : va_D A [(b, .inr (8, [.ref q_1, .int 0, .ref q_2, .null, .int 0, .null, .int 0, .null, .int 0, .null, .int 0])), (q_1, .inl (cA_1, 4, .inr (.inr (.inr (.inr (fun _ => none)))))), (q_2, .inl (cA_2, 10, .inr (.inr (.inr (.inr (fun _ => none)))))), (q_3, .inl (cA_3, 100, .inr (.inr (.inr (.inr (fun _ => none))))))] := hD
  have hK : va_K D vwCl [(cA_1, .object RX7), (cA_2, .object RX9), (cA_3, .object RX4)] s := hK
  refine W.widen (k := 3) (n := 114) (Nat.le_of_ble_eq_true rfl) (Nat.le_of_ble_eq_true rfl) ?_
  refine va_putF (D := D) (ci := 8) (v := .ref q_3) (ty := .array (.object "Chainwork$Law")) (C := RX8) (T := TX8) (N := 11) hx hb ht zinX8 tyX8 tyX8_ok nmX8 hown hK hP hD hS 0 rfl rfl 3 (by decide) (ht _ zw_189) (fun _ h9 => h9) rfl hin rfl (by decide +kernel) rfl rfl (Nat.le_of_ble_eq_true rfl) dX8_init_32 (fun H locs hP hD hS => ?_)
  have hP : va_P D vwCl [(b, .inr (8, [.ref q_1, .int 0, .ref q_2, .ref q_3, .int 0, .null, .int 0, .null, .int 0, .null, .int 0])), (q_1, .inl (cA_1, 4, .inr (.inr (.inr (.inr (fun _ => none)))))), (q_2, .inl (cA_2, 10, .inr (.inr (.inr (.inr (fun _ => none)))))), (q_3, .inl (cA_3, 100, .inr (.inr (.inr (.inr (fun _ => none))))))] H := hP
  have hD : va_D A [(b, .inr (8, [.ref q_1, .int 0, .ref q_2, .ref q_3, .int 0, .null, .int 0, .null, .int 0, .null, .int 0])), (q_1, .inl (cA_1, 4, .inr (.inr (.inr (.inr (fun _ => none)))))), (q_2, .inl (cA_2, 10, .inr (.inr (.inr (.inr (fun _ => none)))))), (q_3, .inl (cA_3, 100, .inr (.inr (.inr (.inr (fun _ => none))))))] := hD
  refine lv_aload_n hx hb dX8_init_35 rfl (lv_at hl 0 rfl) ?_
  refine lv_iconst (v := 0) hx hb dX8_init_36 (by decide) ?_
  refine va_put (D := D) (ci := 8) (v := .int 0) (ty := .int) (C := RX8) (T := TX8) (N := 11) hx hb ht zinX8 tyX8 tyX8_ok nmX8 hown hK hP hD hS 0 rfl rfl 4 (by decide) (ht _ zw_190) (fun _ h9 => h9) rfl (by decide +kernel) rfl rfl (Nat.le_of_ble_eq_true rfl) dX8_init_37 (fun H locs hP hD hS => ?_)
  have hP : va_P D vwCl [(b, .inr (8, [.ref q_1, .int 0, .ref q_2, .ref q_3, .int 0, .null, .int 0, .null, .int 0, .null, .int 0])), (q_1, .inl (cA_1, 4, .inr (.inr (.inr (.inr (fun _ => none)))))), (q_2, .inl (cA_2, 10, .inr (.inr (.inr (.inr (fun _ => none)))))), (q_3, .inl (cA_3, 100, .inr (.inr (.inr (.inr (fun _ => none))))))] H := hP
  have hD : va_D A [(b, .inr (8, [.ref q_1, .int 0, .ref q_2, .ref q_3, .int 0, .null, .int 0, .null, .int 0, .null, .int 0])), (q_1, .inl (cA_1, 4, .inr (.inr (.inr (.inr (fun _ => none)))))), (q_2, .inl (cA_2, 10, .inr (.inr (.inr (.inr (fun _ => none)))))), (q_3, .inl (cA_3, 100, .inr (.inr (.inr (.inr (fun _ => none))))))] := hD
  refine lv_aload_n hx hb dX8_init_40 rfl (lv_at hl 0 rfl) ?_
  refine lv_iconst (v := 4) hx hb dX8_init_41 (by decide) ?_
  refine va_newq (C := RX2) hx hb hown (ht _ zw_192) (hX.2.1 _ (by decide +kernel)) hK hP hD hS hA (by decide) rfl (Nat.le_of_ble_eq_true rfl) (Nat.le_of_ble_eq_true rfl) (Nat.le_of_ble_eq_true rfl) dX8_init_42 (fun q_4 cA_4 H hK hP hD hS => ?_)
  have hP : va_P D vwCl [(b, .inr (8, [.ref q_1, .int 0, .ref q_2, .ref q_3, .int 0, .null, .int 0, .null, .int 0, .null, .int 0])), (q_1, .inl (cA_1, 4, .inr (.inr (.inr (.inr (fun _ => none)))))), (q_2, .inl (cA_2, 10, .inr (.inr (.inr (.inr (fun _ => none)))))), (q_3, .inl (cA_3, 100, .inr (.inr (.inr (.inr (fun _ => none)))))), (q_4, .inl (cA_4, 4, .inr (.inr (.inr (.inr (fun _ => none))))))] H := hP
  have hD : va_D A [(b, .inr (8, [.ref q_1, .int 0, .ref q_2, .ref q_3, .int 0, .null, .int 0, .null, .int 0, .null, .int 0])), (q_1, .inl (cA_1, 4, .inr (.inr (.inr (.inr (fun _ => none)))))), (q_2, .inl (cA_2, 10, .inr (.inr (.inr (.inr (fun _ => none)))))), (q_3, .inl (cA_3, 100, .inr (.inr (.inr (.inr (fun _ => none)))))), (q_4, .inl (cA_4, 4, .inr (.inr (.inr (.inr (fun _ => none))))))] := hD
  have hK : va_K D vwCl [(cA_1, .object RX7), (cA_2, .object RX9), (cA_3, .object RX4), (cA_4, .object RX2)] s := hK
  refine W.widen (k := 4) (n := 118) (Nat.le_of_ble_eq_true rfl) (Nat.le_of_ble_eq_true rfl) ?_
  refine va_putF (D := D) (ci := 8) (v := .ref q_4) (ty := .array (.object "Chainwork$Equivalence")) (C := RX8) (T := TX8) (N := 11) hx hb ht zinX8 tyX8 tyX8_ok nmX8 hown hK hP hD hS 0 rfl rfl 5 (by decide) (ht _ zw_193) (fun _ h9 => h9) rfl hin rfl (by decide +kernel) rfl rfl (Nat.le_of_ble_eq_true rfl) dX8_init_45 (fun H locs hP hD hS => ?_)
  have hP : va_P D vwCl [(b, .inr (8, [.ref q_1, .int 0, .ref q_2, .ref q_3, .int 0, .ref q_4, .int 0, .null, .int 0, .null, .int 0])), (q_1, .inl (cA_1, 4, .inr (.inr (.inr (.inr (fun _ => none)))))), (q_2, .inl (cA_2, 10, .inr (.inr (.inr (.inr (fun _ => none)))))), (q_3, .inl (cA_3, 100, .inr (.inr (.inr (.inr (fun _ => none)))))), (q_4, .inl (cA_4, 4, .inr (.inr (.inr (.inr (fun _ => none))))))] H := hP
  have hD : va_D A [(b, .inr (8, [.ref q_1, .int 0, .ref q_2, .ref q_3, .int 0, .ref q_4, .int 0, .null, .int 0, .null, .int 0])), (q_1, .inl (cA_1, 4, .inr (.inr (.inr (.inr (fun _ => none)))))), (q_2, .inl (cA_2, 10, .inr (.inr (.inr (.inr (fun _ => none)))))), (q_3, .inl (cA_3, 100, .inr (.inr (.inr (.inr (fun _ => none)))))), (q_4, .inl (cA_4, 4, .inr (.inr (.inr (.inr (fun _ => none))))))] := hD
  refine lv_aload_n hx hb dX8_init_48 rfl (lv_at hl 0 rfl) ?_
  refine lv_iconst (v := 0) hx hb dX8_init_49 (by decide) ?_
  refine va_put (D := D) (ci := 8) (v := .int 0) (ty := .int) (C := RX8) (T := TX8) (N := 11) hx hb ht zinX8 tyX8 tyX8_ok nmX8 hown hK hP hD hS 0 rfl rfl 6 (by decide) (ht _ zw_194) (fun _ h9 => h9) rfl (by decide +kernel) rfl rfl (Nat.le_of_ble_eq_true rfl) dX8_init_50 (fun H locs hP hD hS => ?_)
  have hP : va_P D vwCl [(b, .inr (8, [.ref q_1, .int 0, .ref q_2, .ref q_3, .int 0, .ref q_4, .int 0, .null, .int 0, .null, .int 0])), (q_1, .inl (cA_1, 4, .inr (.inr (.inr (.inr (fun _ => none)))))), (q_2, .inl (cA_2, 10, .inr (.inr (.inr (.inr (fun _ => none)))))), (q_3, .inl (cA_3, 100, .inr (.inr (.inr (.inr (fun _ => none)))))), (q_4, .inl (cA_4, 4, .inr (.inr (.inr (.inr (fun _ => none))))))] H := hP
  have hD : va_D A [(b, .inr (8, [.ref q_1, .int 0, .ref q_2, .ref q_3, .int 0, .ref q_4, .int 0, .null, .int 0, .null, .int 0])), (q_1, .inl (cA_1, 4, .inr (.inr (.inr (.inr (fun _ => none)))))), (q_2, .inl (cA_2, 10, .inr (.inr (.inr (.inr (fun _ => none)))))), (q_3, .inl (cA_3, 100, .inr (.inr (.inr (.inr (fun _ => none)))))), (q_4, .inl (cA_4, 4, .inr (.inr (.inr (.inr (fun _ => none))))))] := hD
  refine lv_aload_n hx hb dX8_init_53 rfl (lv_at hl 0 rfl) ?_
  refine lv_iconst (v := 3) hx hb dX8_init_54 (by decide) ?_
  refine va_newq (C := RX4) hx hb hown (ht _ zw_188) (hX.2.1 _ (by decide +kernel)) hK hP hD hS hA (by decide) rfl (Nat.le_of_ble_eq_true rfl) (Nat.le_of_ble_eq_true rfl) (Nat.le_of_ble_eq_true rfl) dX8_init_55 (fun q_5 cA_5 H hK hP hD hS => ?_)
  have hcc : cA_3 = cA_5 := za_same hK 2 4 rfl rfl
  subst hcc
  have hK := hK.sub (tys' := [(cA_1, .object RX7), (cA_2, .object RX9), (cA_3, .object RX4), (cA_4, .object RX2)]) [0, 1, 2, 3] rfl
  have hP : va_P D vwCl [(b, .inr (8, [.ref q_1, .int 0, .ref q_2, .ref q_3, .int 0, .ref q_4, .int 0, .null, .int 0, .null, .int 0])), (q_1, .inl (cA_1, 4, .inr (.inr (.inr (.inr (fun _ => none)))))), (q_2, .inl (cA_2, 10, .inr (.inr (.inr (.inr (fun _ => none)))))), (q_3, .inl (cA_3, 100, .inr (.inr (.inr (.inr (fun _ => none)))))), (q_4, .inl (cA_4, 4, .inr (.inr (.inr (.inr (fun _ => none)))))), (q_5, .inl (cA_3, 3, .inr (.inr (.inr (.inr (fun _ => none))))))] H := hP
  have hD : va_D A [(b, .inr (8, [.ref q_1, .int 0, .ref q_2, .ref q_3, .int 0, .ref q_4, .int 0, .null, .int 0, .null, .int 0])), (q_1, .inl (cA_1, 4, .inr (.inr (.inr (.inr (fun _ => none)))))), (q_2, .inl (cA_2, 10, .inr (.inr (.inr (.inr (fun _ => none)))))), (q_3, .inl (cA_3, 100, .inr (.inr (.inr (.inr (fun _ => none)))))), (q_4, .inl (cA_4, 4, .inr (.inr (.inr (.inr (fun _ => none)))))), (q_5, .inl (cA_3, 3, .inr (.inr (.inr (.inr (fun _ => none))))))] := hD
  have hK : va_K D vwCl [(cA_1, .object RX7), (cA_2, .object RX9), (cA_3, .object RX4), (cA_4, .object RX2)] s := hK
  refine W.widen (k := 5) (n := 121) (Nat.le_of_ble_eq_true rfl) (Nat.le_of_ble_eq_true rfl) ?_
  refine va_putF (D := D) (ci := 8) (v := .ref q_5) (ty := .array (.object "Chainwork$Law")) (C := RX8) (T := TX8) (N := 11) hx hb ht zinX8 tyX8 tyX8_ok nmX8 hown hK hP hD hS 0 rfl rfl 7 (by decide) (ht _ zw_195) (fun _ h9 => h9) rfl hin rfl (by decide +kernel) rfl rfl (Nat.le_of_ble_eq_true rfl) dX8_init_58 (fun H locs hP hD hS => ?_)
  have hP : va_P D vwCl [(b, .inr (8, [.ref q_1, .int 0, .ref q_2, .ref q_3, .int 0, .ref q_4, .int 0, .ref q_5, .int 0, .null, .int 0])), (q_1, .inl (cA_1, 4, .inr (.inr (.inr (.inr (fun _ => none)))))), (q_2, .inl (cA_2, 10, .inr (.inr (.inr (.inr (fun _ => none)))))), (q_3, .inl (cA_3, 100, .inr (.inr (.inr (.inr (fun _ => none)))))), (q_4, .inl (cA_4, 4, .inr (.inr (.inr (.inr (fun _ => none)))))), (q_5, .inl (cA_3, 3, .inr (.inr (.inr (.inr (fun _ => none))))))] H := hP
  have hD : va_D A [(b, .inr (8, [.ref q_1, .int 0, .ref q_2, .ref q_3, .int 0, .ref q_4, .int 0, .ref q_5, .int 0, .null, .int 0])), (q_1, .inl (cA_1, 4, .inr (.inr (.inr (.inr (fun _ => none)))))), (q_2, .inl (cA_2, 10, .inr (.inr (.inr (.inr (fun _ => none)))))), (q_3, .inl (cA_3, 100, .inr (.inr (.inr (.inr (fun _ => none)))))), (q_4, .inl (cA_4, 4, .inr (.inr (.inr (.inr (fun _ => none)))))), (q_5, .inl (cA_3, 3, .inr (.inr (.inr (.inr (fun _ => none))))))] := hD
  refine lv_aload_n hx hb dX8_init_61 rfl (lv_at hl 0 rfl) ?_
  refine lv_iconst (v := 0) hx hb dX8_init_62 (by decide) ?_
  refine va_put (D := D) (ci := 8) (v := .int 0) (ty := .int) (C := RX8) (T := TX8) (N := 11) hx hb ht zinX8 tyX8 tyX8_ok nmX8 hown hK hP hD hS 0 rfl rfl 8 (by decide) (ht _ zw_196) (fun _ h9 => h9) rfl (by decide +kernel) rfl rfl (Nat.le_of_ble_eq_true rfl) dX8_init_63 (fun H locs hP hD hS => ?_)
  have hP : va_P D vwCl [(b, .inr (8, [.ref q_1, .int 0, .ref q_2, .ref q_3, .int 0, .ref q_4, .int 0, .ref q_5, .int 0, .null, .int 0])), (q_1, .inl (cA_1, 4, .inr (.inr (.inr (.inr (fun _ => none)))))), (q_2, .inl (cA_2, 10, .inr (.inr (.inr (.inr (fun _ => none)))))), (q_3, .inl (cA_3, 100, .inr (.inr (.inr (.inr (fun _ => none)))))), (q_4, .inl (cA_4, 4, .inr (.inr (.inr (.inr (fun _ => none)))))), (q_5, .inl (cA_3, 3, .inr (.inr (.inr (.inr (fun _ => none))))))] H := hP
  have hD : va_D A [(b, .inr (8, [.ref q_1, .int 0, .ref q_2, .ref q_3, .int 0, .ref q_4, .int 0, .ref q_5, .int 0, .null, .int 0])), (q_1, .inl (cA_1, 4, .inr (.inr (.inr (.inr (fun _ => none)))))), (q_2, .inl (cA_2, 10, .inr (.inr (.inr (.inr (fun _ => none)))))), (q_3, .inl (cA_3, 100, .inr (.inr (.inr (.inr (fun _ => none)))))), (q_4, .inl (cA_4, 4, .inr (.inr (.inr (.inr (fun _ => none)))))), (q_5, .inl (cA_3, 3, .inr (.inr (.inr (.inr (fun _ => none))))))] := hD
  refine lv_aload_n hx hb dX8_init_66 rfl (lv_at hl 0 rfl) ?_
  refine lv_iconst (v := 4) hx hb dX8_init_67 (by decide) ?_
  refine va_newq (C := RX0) hx hb hown (ht _ zw_198) (hX.2.1 _ (by decide +kernel)) hK hP hD hS hA (by decide) rfl (Nat.le_of_ble_eq_true rfl) (Nat.le_of_ble_eq_true rfl) (Nat.le_of_ble_eq_true rfl) dX8_init_68 (fun q_6 cA_6 H hK hP hD hS => ?_)
  have hP : va_P D vwCl [(b, .inr (8, [.ref q_1, .int 0, .ref q_2, .ref q_3, .int 0, .ref q_4, .int 0, .ref q_5, .int 0, .null, .int 0])), (q_1, .inl (cA_1, 4, .inr (.inr (.inr (.inr (fun _ => none)))))), (q_2, .inl (cA_2, 10, .inr (.inr (.inr (.inr (fun _ => none)))))), (q_3, .inl (cA_3, 100, .inr (.inr (.inr (.inr (fun _ => none)))))), (q_4, .inl (cA_4, 4, .inr (.inr (.inr (.inr (fun _ => none)))))), (q_5, .inl (cA_3, 3, .inr (.inr (.inr (.inr (fun _ => none)))))), (q_6, .inl (cA_6, 4, .inr (.inr (.inr (.inr (fun _ => none))))))] H := hP
  have hD : va_D A [(b, .inr (8, [.ref q_1, .int 0, .ref q_2, .ref q_3, .int 0, .ref q_4, .int 0, .ref q_5, .int 0, .null, .int 0])), (q_1, .inl (cA_1, 4, .inr (.inr (.inr (.inr (fun _ => none)))))), (q_2, .inl (cA_2, 10, .inr (.inr (.inr (.inr (fun _ => none)))))), (q_3, .inl (cA_3, 100, .inr (.inr (.inr (.inr (fun _ => none)))))), (q_4, .inl (cA_4, 4, .inr (.inr (.inr (.inr (fun _ => none)))))), (q_5, .inl (cA_3, 3, .inr (.inr (.inr (.inr (fun _ => none)))))), (q_6, .inl (cA_6, 4, .inr (.inr (.inr (.inr (fun _ => none))))))] := hD
  have hK : va_K D vwCl [(cA_1, .object RX7), (cA_2, .object RX9), (cA_3, .object RX4), (cA_4, .object RX2), (cA_6, .object RX0)] s := hK
  refine W.widen (k := 6) (n := 125) (Nat.le_of_ble_eq_true rfl) (Nat.le_of_ble_eq_true rfl) ?_
  refine va_putF (D := D) (ci := 8) (v := .ref q_6) (ty := .array (.object "Chainwork$Chain")) (C := RX8) (T := TX8) (N := 11) hx hb ht zinX8 tyX8 tyX8_ok nmX8 hown hK hP hD hS 0 rfl rfl 9 (by decide) (ht _ zw_199) (fun _ h9 => h9) rfl hin rfl (by decide +kernel) rfl rfl (Nat.le_of_ble_eq_true rfl) dX8_init_71 (fun H locs hP hD hS => ?_)
  have hP : va_P D vwCl [(b, .inr (8, [.ref q_1, .int 0, .ref q_2, .ref q_3, .int 0, .ref q_4, .int 0, .ref q_5, .int 0, .ref q_6, .int 0])), (q_1, .inl (cA_1, 4, .inr (.inr (.inr (.inr (fun _ => none)))))), (q_2, .inl (cA_2, 10, .inr (.inr (.inr (.inr (fun _ => none)))))), (q_3, .inl (cA_3, 100, .inr (.inr (.inr (.inr (fun _ => none)))))), (q_4, .inl (cA_4, 4, .inr (.inr (.inr (.inr (fun _ => none)))))), (q_5, .inl (cA_3, 3, .inr (.inr (.inr (.inr (fun _ => none)))))), (q_6, .inl (cA_6, 4, .inr (.inr (.inr (.inr (fun _ => none))))))] H := hP
  have hD : va_D A [(b, .inr (8, [.ref q_1, .int 0, .ref q_2, .ref q_3, .int 0, .ref q_4, .int 0, .ref q_5, .int 0, .ref q_6, .int 0])), (q_1, .inl (cA_1, 4, .inr (.inr (.inr (.inr (fun _ => none)))))), (q_2, .inl (cA_2, 10, .inr (.inr (.inr (.inr (fun _ => none)))))), (q_3, .inl (cA_3, 100, .inr (.inr (.inr (.inr (fun _ => none)))))), (q_4, .inl (cA_4, 4, .inr (.inr (.inr (.inr (fun _ => none)))))), (q_5, .inl (cA_3, 3, .inr (.inr (.inr (.inr (fun _ => none)))))), (q_6, .inl (cA_6, 4, .inr (.inr (.inr (.inr (fun _ => none))))))] := hD
  refine lv_aload_n hx hb dX8_init_74 rfl (lv_at hl 0 rfl) ?_
  refine lv_iconst (v := 0) hx hb dX8_init_75 (by decide) ?_
  refine va_put (D := D) (ci := 8) (v := .int 0) (ty := .int) (C := RX8) (T := TX8) (N := 11) hx hb ht zinX8 tyX8 tyX8_ok nmX8 hown hK hP hD hS 0 rfl rfl 10 (by decide) (ht _ zw_200) (fun _ h9 => h9) rfl (by decide +kernel) rfl rfl (Nat.le_of_ble_eq_true rfl) dX8_init_76 (fun H locs hP hD hS => ?_)
  have hP : va_P D vwCl [(b, .inr (8, [.ref q_1, .int 0, .ref q_2, .ref q_3, .int 0, .ref q_4, .int 0, .ref q_5, .int 0, .ref q_6, .int 0])), (q_1, .inl (cA_1, 4, .inr (.inr (.inr (.inr (fun _ => none)))))), (q_2, .inl (cA_2, 10, .inr (.inr (.inr (.inr (fun _ => none)))))), (q_3, .inl (cA_3, 100, .inr (.inr (.inr (.inr (fun _ => none)))))), (q_4, .inl (cA_4, 4, .inr (.inr (.inr (.inr (fun _ => none)))))), (q_5, .inl (cA_3, 3, .inr (.inr (.inr (.inr (fun _ => none)))))), (q_6, .inl (cA_6, 4, .inr (.inr (.inr (.inr (fun _ => none))))))] H := hP
  have hD : va_D A [(b, .inr (8, [.ref q_1, .int 0, .ref q_2, .ref q_3, .int 0, .ref q_4, .int 0, .ref q_5, .int 0, .ref q_6, .int 0])), (q_1, .inl (cA_1, 4, .inr (.inr (.inr (.inr (fun _ => none)))))), (q_2, .inl (cA_2, 10, .inr (.inr (.inr (.inr (fun _ => none)))))), (q_3, .inl (cA_3, 100, .inr (.inr (.inr (.inr (fun _ => none)))))), (q_4, .inl (cA_4, 4, .inr (.inr (.inr (.inr (fun _ => none)))))), (q_5, .inl (cA_3, 3, .inr (.inr (.inr (.inr (fun _ => none)))))), (q_6, .inl (cA_6, 4, .inr (.inr (.inr (.inr (fun _ => none))))))] := hD
  refine va_new (ci := 0) (fs := [.null, .null, .int 0]) (C := RX0) (T := TX0) (N := 3) hx hb ht zinX0 tyX0 tyX0_ok hown (ht _ zw_198) (ht _ zw_201) (ht _ zw_202) hK hP hD hS hA rfl (fun j hj => by rcases (show j = 0 ∨ j = 1 ∨ j = 2 by omega) with rfl | rfl | rfl <;> rfl) (Nat.le_of_ble_eq_true rfl) (Nat.le_of_ble_eq_true rfl) dX8_init_79 (fun q_7 H hP hD hS => ?_)
  have hP : va_P D vwCl [(b, .inr (8, [.ref q_1, .int 0, .ref q_2, .ref q_3, .int 0, .ref q_4, .int 0, .ref q_5, .int 0, .ref q_6, .int 0])), (q_1, .inl (cA_1, 4, .inr (.inr (.inr (.inr (fun _ => none)))))), (q_2, .inl (cA_2, 10, .inr (.inr (.inr (.inr (fun _ => none)))))), (q_3, .inl (cA_3, 100, .inr (.inr (.inr (.inr (fun _ => none)))))), (q_4, .inl (cA_4, 4, .inr (.inr (.inr (.inr (fun _ => none)))))), (q_5, .inl (cA_3, 3, .inr (.inr (.inr (.inr (fun _ => none)))))), (q_6, .inl (cA_6, 4, .inr (.inr (.inr (.inr (fun _ => none)))))), (q_7, .inr (0, [.null, .null, .int 0]))] H := hP
  have hD : va_D A [(b, .inr (8, [.ref q_1, .int 0, .ref q_2, .ref q_3, .int 0, .ref q_4, .int 0, .ref q_5, .int 0, .ref q_6, .int 0])), (q_1, .inl (cA_1, 4, .inr (.inr (.inr (.inr (fun _ => none)))))), (q_2, .inl (cA_2, 10, .inr (.inr (.inr (.inr (fun _ => none)))))), (q_3, .inl (cA_3, 100, .inr (.inr (.inr (.inr (fun _ => none)))))), (q_4, .inl (cA_4, 4, .inr (.inr (.inr (.inr (fun _ => none)))))), (q_5, .inl (cA_3, 3, .inr (.inr (.inr (.inr (fun _ => none)))))), (q_6, .inl (cA_6, 4, .inr (.inr (.inr (.inr (fun _ => none)))))), (q_7, .inr (0, [.null, .null, .int 0]))] := hD
  refine W.widen (k := 7) (n := 128) (Nat.le_of_ble_eq_true rfl) (Nat.le_of_ble_eq_true rfl) ?_
  refine lv_dup hx hb dX8_init_82 rfl ?_
  have hPc := hP.sub (ws' := [(q_7, .inr (0, [.null, .null, .int 0]))]) [7] rfl
  have hDc := hD.sub (ws' := [(q_7, .inr (0, [.null, .null, .int 0]))]) [7] (by decide) rfl
  have hKc := hK.sub (tys' := []) [] rfl
  have hFc := va_free (wc := [(q_7, .inr (0, [.null, .null, .int 0]))]) hD hS hA [7] rfl
  refine va_callv (va_runIN (As := []) (rest := [.ref q_7]) ⟨hx, hb, hml, hown, ht⟩ (k_X0_init l _ D q_7) ⟨va_cnB 0 ht (zG zw_203) rfl rfl rfl (hX.1 _ (List.mem_of_getElem? (i := 0) rfl)) (ht _ zw_202) (by decide +kernel) ⟨Nat.le_of_ble_eq_true rfl, Nat.le_of_ble_eq_true rfl⟩, rfl, ht _ zw_204⟩ (zXw_I (fun _ _ => zTab.warm) hX hPc hKc hDc) rfl rfl hl.1 rfl (lv_room (Nat.le_of_ble_eq_true rfl)) dX8_init_83 ⟨Nat.le_of_ble_eq_true rfl, Nat.le_of_ble_eq_true rfl⟩) hS (fun q _ h => hFc q h) hFc (fun u_8 t H1 locs ht0 hvm hw_8 hB hz1 hk1 hS => ?_)
  obtain ⟨qa_8, qb_8, hB⟩ := hB
  obtain ⟨hP1, hK1, hD1⟩ := hB
  rw [ht0] at hP1
  have hK1 := va_K.moved hvm.symm hK1
  obtain ⟨hP, hD⟩ := va_join (wr := [(b, .inr (8, [.ref q_1, .int 0, .ref q_2, .ref q_3, .int 0, .ref q_4, .int 0, .ref q_5, .int 0, .ref q_6, .int 0])), (q_1, .inl (cA_1, 4, .inr (.inr (.inr (.inr (fun _ => none)))))), (q_2, .inl (cA_2, 10, .inr (.inr (.inr (.inr (fun _ => none)))))), (q_3, .inl (cA_3, 100, .inr (.inr (.inr (.inr (fun _ => none)))))), (q_4, .inl (cA_4, 4, .inr (.inr (.inr (.inr (fun _ => none)))))), (q_5, .inl (cA_3, 3, .inr (.inr (.inr (.inr (fun _ => none)))))), (q_6, .inl (cA_6, 4, .inr (.inr (.inr (.inr (fun _ => none))))))]) (w1 := [(q_7, .inr (0, [.ref qa_8, .ref qb_8, .int 0]))]) hP hD [7] [0, 1, 2, 3, 4, 5, 6] rfl rfl (by decide) (by decide) hk1 hFc hP1 hD1
  generalize H1 = H at hP hS ⊢
  have hP : va_P D vwCl [(b, .inr (8, [.ref q_1, .int 0, .ref q_2, .ref q_3, .int 0, .ref q_4, .int 0, .ref q_5, .int 0, .ref q_6, .int 0])), (q_1, .inl (cA_1, 4, .inr (.inr (.inr (.inr (fun _ => none)))))), (q_2, .inl (cA_2, 10, .inr (.inr (.inr (.inr (fun _ => none)))))), (q_3, .inl (cA_3, 100, .inr (.inr (.inr (.inr (fun _ => none)))))), (q_4, .inl (cA_4, 4, .inr (.inr (.inr (.inr (fun _ => none)))))), (q_5, .inl (cA_3, 3, .inr (.inr (.inr (.inr (fun _ => none)))))), (q_6, .inl (cA_6, 4, .inr (.inr (.inr (.inr (fun _ => none)))))), (q_7, .inr (0, [.ref qa_8, .ref qb_8, .int 0]))] H := hP
  have hD : va_D A [(b, .inr (8, [.ref q_1, .int 0, .ref q_2, .ref q_3, .int 0, .ref q_4, .int 0, .ref q_5, .int 0, .ref q_6, .int 0])), (q_1, .inl (cA_1, 4, .inr (.inr (.inr (.inr (fun _ => none)))))), (q_2, .inl (cA_2, 10, .inr (.inr (.inr (.inr (fun _ => none)))))), (q_3, .inl (cA_3, 100, .inr (.inr (.inr (.inr (fun _ => none)))))), (q_4, .inl (cA_4, 4, .inr (.inr (.inr (.inr (fun _ => none)))))), (q_5, .inl (cA_3, 3, .inr (.inr (.inr (.inr (fun _ => none)))))), (q_6, .inl (cA_6, 4, .inr (.inr (.inr (.inr (fun _ => none)))))), (q_7, .inr (0, [.ref qa_8, .ref qb_8, .int 0]))] := hD
  refine W.widen (k := 9) (n := 152) (Nat.le_of_ble_eq_true rfl) (Nat.le_of_ble_eq_true rfl) ?_
  refine lv_astore_n (lv' := [(1, .ref q_7), (0, .ref b)]) hx hb dX8_init_86 rfl hl (by decide) rfl (fun ls hl => ?_)
  refine lv_iconst (v := 0) hx hb dX8_init_87 (by decide) ?_
  refine lv_istore_n (lv' := [(2, .int 0), (1, .ref q_7), (0, .ref b)]) hx hb dX8_init_88 rfl hl (by decide) rfl (fun ls hl => ?_)
  refine lv_iload_n hx hb dX8_init_89 rfl (lv_at hl 0 rfl) ?_
  refine lv_iconst (v := 4) hx hb dX8_init_90 (by decide) ?_
  refine lv_icmp_ge (tgt := 107) hx hb dX8_init_91 (by decide) (fun c_9 => ?_) (fun c_9 => ?_)
  · skip
    exact absurd c_9 (by decide)
  · skip
    refine lv_aload_n hx hb dX8_init_94 rfl (lv_at hl 2 rfl) ?_
    refine va_get (D := D) (ci := 8) (v := .ref q_6) (C := RX8) (T := TX8) (N := 11) hx hb ht zinX8 hown hK hP 0 rfl rfl 9 (by decide) (ht _ zw_199) (fun _ h9 => h9) rfl dX8_init_95 ?_
    refine lv_iload_n hx hb dX8_init_98 rfl (lv_at hl 0 rfl) ?_
    refine lv_aload_n hx hb dX8_init_99 rfl (lv_at hl 1 rfl) ?_
    refine va_astq (r := (RX0, TX0, 3)) hx hb hK hP hD hS 6 4 7 0 rfl rfl rfl rfl (vp_in_iff.mpr (by decide)) dX8_init_100 (fun H locs hP hD hS => ?_)
    have hP : va_P D vwCl [(b, .inr (8, [.ref q_1, .int 0, .ref q_2, .ref q_3, .int 0, .ref q_4, .int 0, .ref q_5, .int 0, .ref q_6, .int 0])), (q_1, .inl (cA_1, 4, .inr (.inr (.inr (.inr (fun _ => none)))))), (q_2, .inl (cA_2, 10, .inr (.inr (.inr (.inr (fun _ => none)))))), (q_3, .inl (cA_3, 100, .inr (.inr (.inr (.inr (fun _ => none)))))), (q_4, .inl (cA_4, 4, .inr (.inr (.inr (.inr (fun _ => none)))))), (q_5, .inl (cA_3, 3, .inr (.inr (.inr (.inr (fun _ => none)))))), (q_6, .inl (cA_6, 4, .inr (.inr (.inr (.inr (va_up (fun _ => none) 0 (some q_7))))))), (q_7, .inr (0, [.ref qa_8, .ref qb_8, .int 0]))] H := hP
    have hD : va_D A [(b, .inr (8, [.ref q_1, .int 0, .ref q_2, .ref q_3, .int 0, .ref q_4, .int 0, .ref q_5, .int 0, .ref q_6, .int 0])), (q_1, .inl (cA_1, 4, .inr (.inr (.inr (.inr (fun _ => none)))))), (q_2, .inl (cA_2, 10, .inr (.inr (.inr (.inr (fun _ => none)))))), (q_3, .inl (cA_3, 100, .inr (.inr (.inr (.inr (fun _ => none)))))), (q_4, .inl (cA_4, 4, .inr (.inr (.inr (.inr (fun _ => none)))))), (q_5, .inl (cA_3, 3, .inr (.inr (.inr (.inr (fun _ => none)))))), (q_6, .inl (cA_6, 4, .inr (.inr (.inr (.inr (va_up (fun _ => none) 0 (some q_7))))))), (q_7, .inr (0, [.ref qa_8, .ref qb_8, .int 0]))] := hD
    refine lv_iinc (v := 1) (lv' := [(2, .int 1), (1, .ref q_7), (0, .ref b)]) hx hb dX8_init_101 hl (k := 0) rfl (by decide) (by decide) rfl (fun ls hl => ?_)
    refine lv_goto (tgt := 89) hx hb dX8_init_104 (by decide) ?_
    refine lv_iload_n hx hb dX8_init_89 rfl (lv_at hl 0 rfl) ?_
    refine lv_iconst (v := 4) hx hb dX8_init_90 (by decide) ?_
    refine lv_icmp_ge (tgt := 107) hx hb dX8_init_91 (by decide) (fun c_11 => ?_) (fun c_11 => ?_)
    · skip
      exact absurd c_11 (by decide)
    · skip
      refine lv_aload_n hx hb dX8_init_94 rfl (lv_at hl 2 rfl) ?_
      refine va_get (D := D) (ci := 8) (v := .ref q_6) (C := RX8) (T := TX8) (N := 11) hx hb ht zinX8 hown hK hP 0 rfl rfl 9 (by decide) (ht _ zw_199) (fun _ h9 => h9) rfl dX8_init_95 ?_
      refine lv_iload_n hx hb dX8_init_98 rfl (lv_at hl 0 rfl) ?_
      refine lv_aload_n hx hb dX8_init_99 rfl (lv_at hl 1 rfl) ?_
      refine va_astq (r := (RX0, TX0, 3)) hx hb hK hP hD hS 6 4 7 0 rfl rfl rfl rfl (vp_in_iff.mpr (by decide)) dX8_init_100 (fun H locs hP hD hS => ?_)
      have hP : va_P D vwCl [(b, .inr (8, [.ref q_1, .int 0, .ref q_2, .ref q_3, .int 0, .ref q_4, .int 0, .ref q_5, .int 0, .ref q_6, .int 0])), (q_1, .inl (cA_1, 4, .inr (.inr (.inr (.inr (fun _ => none)))))), (q_2, .inl (cA_2, 10, .inr (.inr (.inr (.inr (fun _ => none)))))), (q_3, .inl (cA_3, 100, .inr (.inr (.inr (.inr (fun _ => none)))))), (q_4, .inl (cA_4, 4, .inr (.inr (.inr (.inr (fun _ => none)))))), (q_5, .inl (cA_3, 3, .inr (.inr (.inr (.inr (fun _ => none)))))), (q_6, .inl (cA_6, 4, .inr (.inr (.inr (.inr (va_up (va_up (fun _ => none) 0 (some q_7)) 1 (some q_7))))))), (q_7, .inr (0, [.ref qa_8, .ref qb_8, .int 0]))] H := hP
      have hD : va_D A [(b, .inr (8, [.ref q_1, .int 0, .ref q_2, .ref q_3, .int 0, .ref q_4, .int 0, .ref q_5, .int 0, .ref q_6, .int 0])), (q_1, .inl (cA_1, 4, .inr (.inr (.inr (.inr (fun _ => none)))))), (q_2, .inl (cA_2, 10, .inr (.inr (.inr (.inr (fun _ => none)))))), (q_3, .inl (cA_3, 100, .inr (.inr (.inr (.inr (fun _ => none)))))), (q_4, .inl (cA_4, 4, .inr (.inr (.inr (.inr (fun _ => none)))))), (q_5, .inl (cA_3, 3, .inr (.inr (.inr (.inr (fun _ => none)))))), (q_6, .inl (cA_6, 4, .inr (.inr (.inr (.inr (va_up (va_up (fun _ => none) 0 (some q_7)) 1 (some q_7))))))), (q_7, .inr (0, [.ref qa_8, .ref qb_8, .int 0]))] := hD
      refine lv_iinc (v := 2) (lv' := [(2, .int 2), (1, .ref q_7), (0, .ref b)]) hx hb dX8_init_101 hl (k := 0) rfl (by decide) (by decide) rfl (fun ls hl => ?_)
      refine lv_goto (tgt := 89) hx hb dX8_init_104 (by decide) ?_
      refine lv_iload_n hx hb dX8_init_89 rfl (lv_at hl 0 rfl) ?_
      refine lv_iconst (v := 4) hx hb dX8_init_90 (by decide) ?_
      refine lv_icmp_ge (tgt := 107) hx hb dX8_init_91 (by decide) (fun c_13 => ?_) (fun c_13 => ?_)
      · skip
        exact absurd c_13 (by decide)
      · skip
        refine lv_aload_n hx hb dX8_init_94 rfl (lv_at hl 2 rfl) ?_
        refine va_get (D := D) (ci := 8) (v := .ref q_6) (C := RX8) (T := TX8) (N := 11) hx hb ht zinX8 hown hK hP 0 rfl rfl 9 (by decide) (ht _ zw_199) (fun _ h9 => h9) rfl dX8_init_95 ?_
        refine lv_iload_n hx hb dX8_init_98 rfl (lv_at hl 0 rfl) ?_
        refine lv_aload_n hx hb dX8_init_99 rfl (lv_at hl 1 rfl) ?_
        refine va_astq (r := (RX0, TX0, 3)) hx hb hK hP hD hS 6 4 7 0 rfl rfl rfl rfl (vp_in_iff.mpr (by decide)) dX8_init_100 (fun H locs hP hD hS => ?_)
        have hP : va_P D vwCl [(b, .inr (8, [.ref q_1, .int 0, .ref q_2, .ref q_3, .int 0, .ref q_4, .int 0, .ref q_5, .int 0, .ref q_6, .int 0])), (q_1, .inl (cA_1, 4, .inr (.inr (.inr (.inr (fun _ => none)))))), (q_2, .inl (cA_2, 10, .inr (.inr (.inr (.inr (fun _ => none)))))), (q_3, .inl (cA_3, 100, .inr (.inr (.inr (.inr (fun _ => none)))))), (q_4, .inl (cA_4, 4, .inr (.inr (.inr (.inr (fun _ => none)))))), (q_5, .inl (cA_3, 3, .inr (.inr (.inr (.inr (fun _ => none)))))), (q_6, .inl (cA_6, 4, .inr (.inr (.inr (.inr (va_up (va_up (va_up (fun _ => none) 0 (some q_7)) 1 (some q_7)) 2 (some q_7))))))), (q_7, .inr (0, [.ref qa_8, .ref qb_8, .int 0]))] H := hP
        have hD : va_D A [(b, .inr (8, [.ref q_1, .int 0, .ref q_2, .ref q_3, .int 0, .ref q_4, .int 0, .ref q_5, .int 0, .ref q_6, .int 0])), (q_1, .inl (cA_1, 4, .inr (.inr (.inr (.inr (fun _ => none)))))), (q_2, .inl (cA_2, 10, .inr (.inr (.inr (.inr (fun _ => none)))))), (q_3, .inl (cA_3, 100, .inr (.inr (.inr (.inr (fun _ => none)))))), (q_4, .inl (cA_4, 4, .inr (.inr (.inr (.inr (fun _ => none)))))), (q_5, .inl (cA_3, 3, .inr (.inr (.inr (.inr (fun _ => none)))))), (q_6, .inl (cA_6, 4, .inr (.inr (.inr (.inr (va_up (va_up (va_up (fun _ => none) 0 (some q_7)) 1 (some q_7)) 2 (some q_7))))))), (q_7, .inr (0, [.ref qa_8, .ref qb_8, .int 0]))] := hD
        refine lv_iinc (v := 3) (lv' := [(2, .int 3), (1, .ref q_7), (0, .ref b)]) hx hb dX8_init_101 hl (k := 0) rfl (by decide) (by decide) rfl (fun ls hl => ?_)
        refine lv_goto (tgt := 89) hx hb dX8_init_104 (by decide) ?_
        refine lv_iload_n hx hb dX8_init_89 rfl (lv_at hl 0 rfl) ?_
        refine lv_iconst (v := 4) hx hb dX8_init_90 (by decide) ?_
        refine lv_icmp_ge (tgt := 107) hx hb dX8_init_91 (by decide) (fun c_15 => ?_) (fun c_15 => ?_)
        · skip
          exact absurd c_15 (by decide)
        · skip
          refine lv_aload_n hx hb dX8_init_94 rfl (lv_at hl 2 rfl) ?_
          refine va_get (D := D) (ci := 8) (v := .ref q_6) (C := RX8) (T := TX8) (N := 11) hx hb ht zinX8 hown hK hP 0 rfl rfl 9 (by decide) (ht _ zw_199) (fun _ h9 => h9) rfl dX8_init_95 ?_
          refine lv_iload_n hx hb dX8_init_98 rfl (lv_at hl 0 rfl) ?_
          refine lv_aload_n hx hb dX8_init_99 rfl (lv_at hl 1 rfl) ?_
          refine va_astq (r := (RX0, TX0, 3)) hx hb hK hP hD hS 6 4 7 0 rfl rfl rfl rfl (vp_in_iff.mpr (by decide)) dX8_init_100 (fun H locs hP hD hS => ?_)
          have hP : va_P D vwCl [(b, .inr (8, [.ref q_1, .int 0, .ref q_2, .ref q_3, .int 0, .ref q_4, .int 0, .ref q_5, .int 0, .ref q_6, .int 0])), (q_1, .inl (cA_1, 4, .inr (.inr (.inr (.inr (fun _ => none)))))), (q_2, .inl (cA_2, 10, .inr (.inr (.inr (.inr (fun _ => none)))))), (q_3, .inl (cA_3, 100, .inr (.inr (.inr (.inr (fun _ => none)))))), (q_4, .inl (cA_4, 4, .inr (.inr (.inr (.inr (fun _ => none)))))), (q_5, .inl (cA_3, 3, .inr (.inr (.inr (.inr (fun _ => none)))))), (q_6, .inl (cA_6, 4, .inr (.inr (.inr (.inr (va_up (va_up (va_up (va_up (fun _ => none) 0 (some q_7)) 1 (some q_7)) 2 (some q_7)) 3 (some q_7))))))), (q_7, .inr (0, [.ref qa_8, .ref qb_8, .int 0]))] H := hP
          have hD : va_D A [(b, .inr (8, [.ref q_1, .int 0, .ref q_2, .ref q_3, .int 0, .ref q_4, .int 0, .ref q_5, .int 0, .ref q_6, .int 0])), (q_1, .inl (cA_1, 4, .inr (.inr (.inr (.inr (fun _ => none)))))), (q_2, .inl (cA_2, 10, .inr (.inr (.inr (.inr (fun _ => none)))))), (q_3, .inl (cA_3, 100, .inr (.inr (.inr (.inr (fun _ => none)))))), (q_4, .inl (cA_4, 4, .inr (.inr (.inr (.inr (fun _ => none)))))), (q_5, .inl (cA_3, 3, .inr (.inr (.inr (.inr (fun _ => none)))))), (q_6, .inl (cA_6, 4, .inr (.inr (.inr (.inr (va_up (va_up (va_up (va_up (fun _ => none) 0 (some q_7)) 1 (some q_7)) 2 (some q_7)) 3 (some q_7))))))), (q_7, .inr (0, [.ref qa_8, .ref qb_8, .int 0]))] := hD
          refine lv_iinc (v := 4) (lv' := [(2, .int 4), (1, .ref q_7), (0, .ref b)]) hx hb dX8_init_101 hl (k := 0) rfl (by decide) (by decide) rfl (fun ls hl => ?_)
          refine lv_goto (tgt := 89) hx hb dX8_init_104 (by decide) ?_
          refine lv_iload_n hx hb dX8_init_89 rfl (lv_at hl 0 rfl) ?_
          refine lv_iconst (v := 4) hx hb dX8_init_90 (by decide) ?_
          refine lv_icmp_ge (tgt := 107) hx hb dX8_init_91 (by decide) (fun c_17 => ?_) (fun c_17 => ?_)
          · skip
            have hP9 := hP.sub (ws' := [(b, .inr (8, [.ref q_1, .int 0, .ref q_2, .ref q_3, .int 0, .ref q_4, .int 0, .ref q_5, .int 0, .ref q_6, .int 0])), (q_1, .inl (cA_1, 4, .inr (.inr (.inr (.inr (fun _ => none)))))), (q_2, .inl (cA_2, 10, .inr (.inr (.inr (.inr (fun _ => none)))))), (q_3, .inl (cA_3, 100, .inr (.inr (.inr (.inr (fun _ => none)))))), (q_4, .inl (cA_4, 4, .inr (.inr (.inr (.inr (fun _ => none)))))), (q_5, .inl (cA_3, 3, .inr (.inr (.inr (.inr (fun _ => none)))))), (q_6, .inl (cA_6, 4, .inr (.inr (.inr (.inr (va_up (va_up (va_up (va_up (fun _ => none) 0 (some q_7)) 1 (some q_7)) 2 (some q_7)) 3 (some q_7))))))), (q_7, .inr (0, [.ref qa_8, .ref qb_8, .int 0]))]) [0, 1, 2, 3, 4, 5, 6, 7] rfl
            have hD9 := hD.sub (ws' := [(b, .inr (8, [.ref q_1, .int 0, .ref q_2, .ref q_3, .int 0, .ref q_4, .int 0, .ref q_5, .int 0, .ref q_6, .int 0])), (q_1, .inl (cA_1, 4, .inr (.inr (.inr (.inr (fun _ => none)))))), (q_2, .inl (cA_2, 10, .inr (.inr (.inr (.inr (fun _ => none)))))), (q_3, .inl (cA_3, 100, .inr (.inr (.inr (.inr (fun _ => none)))))), (q_4, .inl (cA_4, 4, .inr (.inr (.inr (.inr (fun _ => none)))))), (q_5, .inl (cA_3, 3, .inr (.inr (.inr (.inr (fun _ => none)))))), (q_6, .inl (cA_6, 4, .inr (.inr (.inr (.inr (va_up (va_up (va_up (va_up (fun _ => none) 0 (some q_7)) 1 (some q_7)) 2 (some q_7)) 3 (some q_7))))))), (q_7, .inr (0, [.ref qa_8, .ref qb_8, .int 0]))]) [0, 1, 2, 3, 4, 5, 6, 7] (by decide) rfl
            have hK9 := hK.sub (tys' := [(cA_1, .object RX7), (cA_2, .object RX9), (cA_3, .object RX4), (cA_4, .object RX2), (cA_6, .object RX0)]) [0, 1, 2, 3, 4] rfl
            refine W.widen (k := 9) (n := 152) (Nat.le_of_ble_eq_true rfl) (Nat.le_of_ble_eq_true rfl) ?_
            exact W.vret hx hb hr (fun t ht0 hW => ⟨⟨(), rfl, trivial, q_1, q_2, q_3, q_4, q_5, q_6, q_7, qa_8, qb_8, (va_up (va_up (va_up (va_up (fun _ => none) 0 (some q_7)) 1 (some q_7)) 2 (some q_7)) 3 (some q_7)), cA_1, cA_2, cA_3, cA_4, cA_6, (by intro k hk; rcases (show k = 0 ∨ k = 1 ∨ k = 2 ∨ k = 3 by omega) with rfl | rfl | rfl | rfl <;> rfl), zE_of hP9 hK9 hD9 ht0 hW⟩, hS.F ht0⟩) hS.2.2 dX8_init_107
          · skip
            exact absurd c_17 (by decide)
set_option maxHeartbeats 4000000 in
set_option maxRecDepth 100000 in
theorem k_X10_init_200 (l : Launch) (sz : Nat) (D : va_G) (b : Nat) : Met l yX10_init (.code yX10_init cX10_init 2 none :: zT) ({ frames := 1, cells := 3, slots := 280, locals := 12 }) (va_Pc [.ref b, .int 200] (zX zTab D [(b, .inr (10, [.null, .int 0, .null, .int 0, .null, .int 0, .int 0]))] [] sz)) (va_Qv (fun (_ : Unit) => True) (fun _ t => ∃ (q1 : Nat) (q2 : Nat) (q3 : Nat) (cI : ClassId), zE D [(b, .inr (10, [.ref q1, .int 0, .ref q2, .int 0, .ref q3, .int 0, .int 0])), (q1, .inl (cI, 200, .inl (fun _ => 0))), (q2, .inl (cI, 40, .inl (fun _ => 0))), (q3, .inl (cI, 40, .inl (fun _ => 0)))] [(cI, .int)] (va_A [(b, .inr (10, [.null, .int 0, .null, .int 0, .null, .int 0, .int 0]))] sz) t) (va_A [(b, .inr (10, [.null, .int 0, .null, .int 0, .null, .int 0, .int 0]))] sz)) 3 280 (va_A [(b, .inr (10, [.null, .int 0, .null, .int 0, .null, .int 0, .int 0]))] sz) := by
  refine Met.ofW (cc := cX10_init) (maxL := 2) (ret := none) (by decide) rfl ?_
  intro p e s m args below meth c s₁ B hml hv
  obtain ⟨rfl, hX, hsz, hP, hK, hD0⟩ := hv
  have hx := B.exec
  have hb := B.bytes
  have hr := B.returns
  have hts := atoms_spec (ws := (.code yX10_init cX10_init 2 none :: zT)) B.pre
  have ht : ∀ w ∈ zT, w.before _ s = true := fun w h => hts w (List.mem_cons_of_mem _ h)
  have hown : s.vm.findClass RX10 = some m.cls := findClass_of_methodNamed B.named
  have hlocks := B.notSynchronized
  have hin : meth.name = "<init>" := (name_of_methodNamed B.named B.method).1
  subst hsz
  have hD := hD0.self (sz := s.heap.size)
  generalize hAe : va_A [(b, .inr (10, [.null, .int 0, .null, .int 0, .null, .int 0, .int 0]))] s.heap.size = A at hD ⊢
  have hA : ∀ q : Nat, s.heap.size ≤ q → A q := fun q h => by rw [← hAe]; exact Or.inr h
  have hS : va_S A s.heap s.heap [] := va_S.rf
  have hP : va_P D vwCl [(b, .inr (10, [.null, .int 0, .null, .int 0, .null, .int 0, .int 0]))] s.heap := hP
  have hl := lv_entry ([.ref b, .int 200]) (n := 2) (Nat.le_of_ble_eq_true rfl)
  rw [lg_entry_eq]
  generalize (lg_sl ([.ref b, .int 200]) ++ List.replicate (2 - (lg_sl ([.ref b, .int 200])).length) Slot.unset).toArray = ls at hl ⊢
  have hl : lv_has ls 2 [(0, .ref b), (1, .int 200)] := hl
  skip
  refine lv_aload_n hx hb dX10_init_0 rfl (lv_at hl 0 rfl) ?_
  refine W.objInit hx hb hown (ht _ zw_205) (ht _ zw_145) (ht _ zw_146) rfl (by rw [hml]; exact hl.1) rfl dX10_init_1 (Nat.le_of_ble_eq_true rfl) (Nat.le_of_ble_eq_true rfl) ?_
  refine W.eq (g2 := F0 m 4 ls []) rfl ?_
  refine lv_aload_n hx hb dX10_init_4 rfl (lv_at hl 0 rfl) ?_
  refine lv_iconst (v := 0) hx hb dX10_init_5 (by decide) ?_
  refine va_put (D := D) (ci := 10) (v := .int 0) (ty := .int) (C := RX10) (T := TX10) (N := 7) hx hb ht zinX10 tyX10 tyX10_ok nmX10 hown hK hP hD hS 0 rfl rfl 1 (by decide) (ht _ zw_213) (fun _ h9 => h9) rfl (by decide +kernel) rfl rfl (Nat.le_of_ble_eq_true rfl) dX10_init_6 (fun H locs hP hD hS => ?_)
  have hP : va_P D vwCl [(b, .inr (10, [.null, .int 0, .null, .int 0, .null, .int 0, .int 0]))] H := hP
  have hD : va_D A [(b, .inr (10, [.null, .int 0, .null, .int 0, .null, .int 0, .int 0]))] := hD
  refine lv_aload_n hx hb dX10_init_9 rfl (lv_at hl 0 rfl) ?_
  refine lv_bipush (v := 40) hx hb dX10_init_10 (by decide) ?_
  refine va_newa (atype := .int) (a0 := (40, .inl (fun _ => 0))) hx hb (ht _ zw_108) rfl hK hP hD hS hA (fun _ => rfl) (by decide) rfl (Nat.le_of_ble_eq_true rfl) (Nat.le_of_ble_eq_true rfl) (Nat.le_of_ble_eq_true rfl) dX10_init_12 (fun q_1 cA_1 H hK hP hD hS => ?_)
  have hP : va_P D vwCl [(b, .inr (10, [.null, .int 0, .null, .int 0, .null, .int 0, .int 0])), (q_1, .inl (cA_1, 40, .inl (fun _ => 0)))] H := hP
  have hD : va_D A [(b, .inr (10, [.null, .int 0, .null, .int 0, .null, .int 0, .int 0])), (q_1, .inl (cA_1, 40, .inl (fun _ => 0)))] := hD
  have hK : va_K D vwCl [(cA_1, .int)] s := hK
  refine W.widen (k := 1) (n := 40) (Nat.le_of_ble_eq_true rfl) (Nat.le_of_ble_eq_true rfl) ?_
  refine va_putF (D := D) (ci := 10) (v := .ref q_1) (ty := .array .int) (C := RX10) (T := TX10) (N := 7) hx hb ht zinX10 tyX10 tyX10_ok nmX10 hown hK hP hD hS 0 rfl rfl 2 (by decide) (ht _ zw_214) (fun _ h9 => h9) rfl hin rfl (by decide +kernel) rfl rfl (Nat.le_of_ble_eq_true rfl) dX10_init_14 (fun H locs hP hD hS => ?_)
  have hP : va_P D vwCl [(b, .inr (10, [.null, .int 0, .ref q_1, .int 0, .null, .int 0, .int 0])), (q_1, .inl (cA_1, 40, .inl (fun _ => 0)))] H := hP
  have hD : va_D A [(b, .inr (10, [.null, .int 0, .ref q_1, .int 0, .null, .int 0, .int 0])), (q_1, .inl (cA_1, 40, .inl (fun _ => 0)))] := hD
  refine lv_aload_n hx hb dX10_init_17 rfl (lv_at hl 0 rfl) ?_
  refine lv_iconst (v := 0) hx hb dX10_init_18 (by decide) ?_
  refine va_put (D := D) (ci := 10) (v := .int 0) (ty := .int) (C := RX10) (T := TX10) (N := 7) hx hb ht zinX10 tyX10 tyX10_ok nmX10 hown hK hP hD hS 0 rfl rfl 3 (by decide) (ht _ zw_215) (fun _ h9 => h9) rfl (by decide +kernel) rfl rfl (Nat.le_of_ble_eq_true rfl) dX10_init_19 (fun H locs hP hD hS => ?_)
  have hP : va_P D vwCl [(b, .inr (10, [.null, .int 0, .ref q_1, .int 0, .null, .int 0, .int 0])), (q_1, .inl (cA_1, 40, .inl (fun _ => 0)))] H := hP
  have hD : va_D A [(b, .inr (10, [.null, .int 0, .ref q_1, .int 0, .null, .int 0, .int 0])), (q_1, .inl (cA_1, 40, .inl (fun _ => 0)))] := hD
  refine lv_aload_n hx hb dX10_init_22 rfl (lv_at hl 0 rfl) ?_
  refine lv_bipush (v := 40) hx hb dX10_init_23 (by decide) ?_
  refine va_newa (atype := .int) (a0 := (40, .inl (fun _ => 0))) hx hb (ht _ zw_108) rfl hK hP hD hS hA (fun _ => rfl) (by decide) rfl (Nat.le_of_ble_eq_true rfl) (Nat.le_of_ble_eq_true rfl) (Nat.le_of_ble_eq_true rfl) dX10_init_25 (fun q_2 cA_2 H hK hP hD hS => ?_)
  have hcc : cA_1 = cA_2 := za_same hK 0 1 rfl rfl
  subst hcc
  have hK := hK.sub (tys' := [(cA_1, .int)]) [0] rfl
  have hP : va_P D vwCl [(b, .inr (10, [.null, .int 0, .ref q_1, .int 0, .null, .int 0, .int 0])), (q_1, .inl (cA_1, 40, .inl (fun _ => 0))), (q_2, .inl (cA_1, 40, .inl (fun _ => 0)))] H := hP
  have hD : va_D A [(b, .inr (10, [.null, .int 0, .ref q_1, .int 0, .null, .int 0, .int 0])), (q_1, .inl (cA_1, 40, .inl (fun _ => 0))), (q_2, .inl (cA_1, 40, .inl (fun _ => 0)))] := hD
  have hK : va_K D vwCl [(cA_1, .int)] s := hK
  refine W.widen (k := 2) (n := 80) (Nat.le_of_ble_eq_true rfl) (Nat.le_of_ble_eq_true rfl) ?_
  refine va_putF (D := D) (ci := 10) (v := .ref q_2) (ty := .array .int) (C := RX10) (T := TX10) (N := 7) hx hb ht zinX10 tyX10 tyX10_ok nmX10 hown hK hP hD hS 0 rfl rfl 4 (by decide) (ht _ zw_216) (fun _ h9 => h9) rfl hin rfl (by decide +kernel) rfl rfl (Nat.le_of_ble_eq_true rfl) dX10_init_27 (fun H locs hP hD hS => ?_)
  have hP : va_P D vwCl [(b, .inr (10, [.null, .int 0, .ref q_1, .int 0, .ref q_2, .int 0, .int 0])), (q_1, .inl (cA_1, 40, .inl (fun _ => 0))), (q_2, .inl (cA_1, 40, .inl (fun _ => 0)))] H := hP
  have hD : va_D A [(b, .inr (10, [.null, .int 0, .ref q_1, .int 0, .ref q_2, .int 0, .int 0])), (q_1, .inl (cA_1, 40, .inl (fun _ => 0))), (q_2, .inl (cA_1, 40, .inl (fun _ => 0)))] := hD
  refine lv_aload_n hx hb dX10_init_30 rfl (lv_at hl 0 rfl) ?_
  refine lv_iconst (v := 0) hx hb dX10_init_31 (by decide) ?_
  refine va_put (D := D) (ci := 10) (v := .int 0) (ty := .int) (C := RX10) (T := TX10) (N := 7) hx hb ht zinX10 tyX10 tyX10_ok nmX10 hown hK hP hD hS 0 rfl rfl 5 (by decide) (ht _ zw_217) (fun _ h9 => h9) rfl (by decide +kernel) rfl rfl (Nat.le_of_ble_eq_true rfl) dX10_init_32 (fun H locs hP hD hS => ?_)
  have hP : va_P D vwCl [(b, .inr (10, [.null, .int 0, .ref q_1, .int 0, .ref q_2, .int 0, .int 0])), (q_1, .inl (cA_1, 40, .inl (fun _ => 0))), (q_2, .inl (cA_1, 40, .inl (fun _ => 0)))] H := hP
  have hD : va_D A [(b, .inr (10, [.null, .int 0, .ref q_1, .int 0, .ref q_2, .int 0, .int 0])), (q_1, .inl (cA_1, 40, .inl (fun _ => 0))), (q_2, .inl (cA_1, 40, .inl (fun _ => 0)))] := hD
  refine lv_aload_n hx hb dX10_init_35 rfl (lv_at hl 0 rfl) ?_
  refine lv_iconst (v := 0) hx hb dX10_init_36 (by decide) ?_
  refine va_put (D := D) (ci := 10) (v := .int 0) (ty := .int) (C := RX10) (T := TX10) (N := 7) hx hb ht zinX10 tyX10 tyX10_ok nmX10 hown hK hP hD hS 0 rfl rfl 6 (by decide) (ht _ zw_218) (fun _ h9 => h9) rfl (by decide +kernel) rfl rfl (Nat.le_of_ble_eq_true rfl) dX10_init_37 (fun H locs hP hD hS => ?_)
  have hP : va_P D vwCl [(b, .inr (10, [.null, .int 0, .ref q_1, .int 0, .ref q_2, .int 0, .int 0])), (q_1, .inl (cA_1, 40, .inl (fun _ => 0))), (q_2, .inl (cA_1, 40, .inl (fun _ => 0)))] H := hP
  have hD : va_D A [(b, .inr (10, [.null, .int 0, .ref q_1, .int 0, .ref q_2, .int 0, .int 0])), (q_1, .inl (cA_1, 40, .inl (fun _ => 0))), (q_2, .inl (cA_1, 40, .inl (fun _ => 0)))] := hD
  refine lv_aload_n hx hb dX10_init_40 rfl (lv_at hl 0 rfl) ?_
  refine lv_iload_n hx hb dX10_init_41 rfl (lv_at hl 1 rfl) ?_
  refine va_newa (atype := .int) (a0 := (200, .inl (fun _ => 0))) hx hb (ht _ zw_108) rfl hK hP hD hS hA (fun _ => rfl) (by decide) rfl (Nat.le_of_ble_eq_true rfl) (Nat.le_of_ble_eq_true rfl) (Nat.le_of_ble_eq_true rfl) dX10_init_42 (fun q_3 cA_3 H hK hP hD hS => ?_)
  have hcc : cA_1 = cA_3 := za_same hK 0 1 rfl rfl
  subst hcc
  have hK := hK.sub (tys' := [(cA_1, .int)]) [0] rfl
  have hP : va_P D vwCl [(b, .inr (10, [.null, .int 0, .ref q_1, .int 0, .ref q_2, .int 0, .int 0])), (q_1, .inl (cA_1, 40, .inl (fun _ => 0))), (q_2, .inl (cA_1, 40, .inl (fun _ => 0))), (q_3, .inl (cA_1, 200, .inl (fun _ => 0)))] H := hP
  have hD : va_D A [(b, .inr (10, [.null, .int 0, .ref q_1, .int 0, .ref q_2, .int 0, .int 0])), (q_1, .inl (cA_1, 40, .inl (fun _ => 0))), (q_2, .inl (cA_1, 40, .inl (fun _ => 0))), (q_3, .inl (cA_1, 200, .inl (fun _ => 0)))] := hD
  have hK : va_K D vwCl [(cA_1, .int)] s := hK
  refine W.widen (k := 3) (n := 280) (Nat.le_of_ble_eq_true rfl) (Nat.le_of_ble_eq_true rfl) ?_
  refine va_putF (D := D) (ci := 10) (v := .ref q_3) (ty := .array .int) (C := RX10) (T := TX10) (N := 7) hx hb ht zinX10 tyX10 tyX10_ok nmX10 hown hK hP hD hS 0 rfl rfl 0 (by decide) (ht _ zw_219) (fun _ h9 => h9) rfl hin rfl (by decide +kernel) rfl rfl (Nat.le_of_ble_eq_true rfl) dX10_init_44 (fun H locs hP hD hS => ?_)
  have hP : va_P D vwCl [(b, .inr (10, [.ref q_3, .int 0, .ref q_1, .int 0, .ref q_2, .int 0, .int 0])), (q_1, .inl (cA_1, 40, .inl (fun _ => 0))), (q_2, .inl (cA_1, 40, .inl (fun _ => 0))), (q_3, .inl (cA_1, 200, .inl (fun _ => 0)))] H := hP
  have hD : va_D A [(b, .inr (10, [.ref q_3, .int 0, .ref q_1, .int 0, .ref q_2, .int 0, .int 0])), (q_1, .inl (cA_1, 40, .inl (fun _ => 0))), (q_2, .inl (cA_1, 40, .inl (fun _ => 0))), (q_3, .inl (cA_1, 200, .inl (fun _ => 0)))] := hD
  have hP9 := hP.sub (ws' := [(b, .inr (10, [.ref q_3, .int 0, .ref q_1, .int 0, .ref q_2, .int 0, .int 0])), (q_3, .inl (cA_1, 200, .inl (fun _ => 0))), (q_1, .inl (cA_1, 40, .inl (fun _ => 0))), (q_2, .inl (cA_1, 40, .inl (fun _ => 0)))]) [0, 3, 1, 2] rfl
  have hD9 := hD.sub (ws' := [(b, .inr (10, [.ref q_3, .int 0, .ref q_1, .int 0, .ref q_2, .int 0, .int 0])), (q_3, .inl (cA_1, 200, .inl (fun _ => 0))), (q_1, .inl (cA_1, 40, .inl (fun _ => 0))), (q_2, .inl (cA_1, 40, .inl (fun _ => 0)))]) [0, 3, 1, 2] (by decide) rfl
  have hK9 := hK.sub (tys' := [(cA_1, .int)]) [0] rfl
  refine W.widen (k := 3) (n := 280) (Nat.le_of_ble_eq_true rfl) (Nat.le_of_ble_eq_true rfl) ?_
  exact W.vret hx hb hr (fun t ht0 hW => ⟨⟨(), rfl, trivial, q_3, q_1, q_2, cA_1, zE_of hP9 hK9 hD9 ht0 hW⟩, hS.F ht0⟩) hS.2.2 dX10_init_47
set_option maxHeartbeats 4000000 in
set_option maxRecDepth 100000 in
theorem k_X10_init_512 (l : Launch) (sz : Nat) (D : va_G) (b : Nat) : Met l yX10_init (.code yX10_init cX10_init 2 none :: zT) ({ frames := 1, cells := 3, slots := 592, locals := 12 }) (va_Pc [.ref b, .int 512] (zX zTab D [(b, .inr (10, [.null, .int 0, .null, .int 0, .null, .int 0, .int 0]))] [] sz)) (va_Qv (fun (_ : Unit) => True) (fun _ t => ∃ (q1 : Nat) (q2 : Nat) (q3 : Nat) (cI : ClassId), zE D [(b, .inr (10, [.ref q1, .int 0, .ref q2, .int 0, .ref q3, .int 0, .int 0])), (q1, .inl (cI, 512, .inl (fun _ => 0))), (q2, .inl (cI, 40, .inl (fun _ => 0))), (q3, .inl (cI, 40, .inl (fun _ => 0)))] [(cI, .int)] (va_A [(b, .inr (10, [.null, .int 0, .null, .int 0, .null, .int 0, .int 0]))] sz) t) (va_A [(b, .inr (10, [.null, .int 0, .null, .int 0, .null, .int 0, .int 0]))] sz)) 3 592 (va_A [(b, .inr (10, [.null, .int 0, .null, .int 0, .null, .int 0, .int 0]))] sz) := by
  refine Met.ofW (cc := cX10_init) (maxL := 2) (ret := none) (by decide) rfl ?_
  intro p e s m args below meth c s₁ B hml hv
  obtain ⟨rfl, hX, hsz, hP, hK, hD0⟩ := hv
  have hx := B.exec
  have hb := B.bytes
  have hr := B.returns
  have hts := atoms_spec (ws := (.code yX10_init cX10_init 2 none :: zT)) B.pre
  have ht : ∀ w ∈ zT, w.before _ s = true := fun w h => hts w (List.mem_cons_of_mem _ h)
  have hown : s.vm.findClass RX10 = some m.cls := findClass_of_methodNamed B.named
  have hlocks := B.notSynchronized
  have hin : meth.name = "<init>" := (name_of_methodNamed B.named B.method).1
  subst hsz
  have hD := hD0.self (sz := s.heap.size)
  generalize hAe : va_A [(b, .inr (10, [.null, .int 0, .null, .int 0, .null, .int 0, .int 0]))] s.heap.size = A at hD ⊢
  have hA : ∀ q : Nat, s.heap.size ≤ q → A q := fun q h => by rw [← hAe]; exact Or.inr h
  have hS : va_S A s.heap s.heap [] := va_S.rf
  have hP : va_P D vwCl [(b, .inr (10, [.null, .int 0, .null, .int 0, .null, .int 0, .int 0]))] s.heap := hP
  have hl := lv_entry ([.ref b, .int 512]) (n := 2) (Nat.le_of_ble_eq_true rfl)
  rw [lg_entry_eq]
  generalize (lg_sl ([.ref b, .int 512]) ++ List.replicate (2 - (lg_sl ([.ref b, .int 512])).length) Slot.unset).toArray = ls at hl ⊢
  have hl : lv_has ls 2 [(0, .ref b), (1, .int 512)] := hl
  skip
  refine lv_aload_n hx hb dX10_init_0 rfl (lv_at hl 0 rfl) ?_
  refine W.objInit hx hb hown (ht _ zw_205) (ht _ zw_145) (ht _ zw_146) rfl (by rw [hml]; exact hl.1) rfl dX10_init_1 (Nat.le_of_ble_eq_true rfl) (Nat.le_of_ble_eq_true rfl) ?_
  refine W.eq (g2 := F0 m 4 ls []) rfl ?_
  refine lv_aload_n hx hb dX10_init_4 rfl (lv_at hl 0 rfl) ?_
  refine lv_iconst (v := 0) hx hb dX10_init_5 (by decide) ?_
  refine va_put (D := D) (ci := 10) (v := .int 0) (ty := .int) (C := RX10) (T := TX10) (N := 7) hx hb ht zinX10 tyX10 tyX10_ok nmX10 hown hK hP hD hS 0 rfl rfl 1 (by decide) (ht _ zw_213) (fun _ h9 => h9) rfl (by decide +kernel) rfl rfl (Nat.le_of_ble_eq_true rfl) dX10_init_6 (fun H locs hP hD hS => ?_)
  have hP : va_P D vwCl [(b, .inr (10, [.null, .int 0, .null, .int 0, .null, .int 0, .int 0]))] H := hP
  have hD : va_D A [(b, .inr (10, [.null, .int 0, .null, .int 0, .null, .int 0, .int 0]))] := hD
  refine lv_aload_n hx hb dX10_init_9 rfl (lv_at hl 0 rfl) ?_
  refine lv_bipush (v := 40) hx hb dX10_init_10 (by decide) ?_
  refine va_newa (atype := .int) (a0 := (40, .inl (fun _ => 0))) hx hb (ht _ zw_108) rfl hK hP hD hS hA (fun _ => rfl) (by decide) rfl (Nat.le_of_ble_eq_true rfl) (Nat.le_of_ble_eq_true rfl) (Nat.le_of_ble_eq_true rfl) dX10_init_12 (fun q_1 cA_1 H hK hP hD hS => ?_)
  have hP : va_P D vwCl [(b, .inr (10, [.null, .int 0, .null, .int 0, .null, .int 0, .int 0])), (q_1, .inl (cA_1, 40, .inl (fun _ => 0)))] H := hP
  have hD : va_D A [(b, .inr (10, [.null, .int 0, .null, .int 0, .null, .int 0, .int 0])), (q_1, .inl (cA_1, 40, .inl (fun _ => 0)))] := hD
  have hK : va_K D vwCl [(cA_1, .int)] s := hK
  refine W.widen (k := 1) (n := 40) (Nat.le_of_ble_eq_true rfl) (Nat.le_of_ble_eq_true rfl) ?_
  refine va_putF (D := D) (ci := 10) (v := .ref q_1) (ty := .array .int) (C := RX10) (T := TX10) (N := 7) hx hb ht zinX10 tyX10 tyX10_ok nmX10 hown hK hP hD hS 0 rfl rfl 2 (by decide) (ht _ zw_214) (fun _ h9 => h9) rfl hin rfl (by decide +kernel) rfl rfl (Nat.le_of_ble_eq_true rfl) dX10_init_14 (fun H locs hP hD hS => ?_)
  have hP : va_P D vwCl [(b, .inr (10, [.null, .int 0, .ref q_1, .int 0, .null, .int 0, .int 0])), (q_1, .inl (cA_1, 40, .inl (fun _ => 0)))] H := hP
  have hD : va_D A [(b, .inr (10, [.null, .int 0, .ref q_1, .int 0, .null, .int 0, .int 0])), (q_1, .inl (cA_1, 40, .inl (fun _ => 0)))] := hD
  refine lv_aload_n hx hb dX10_init_17 rfl (lv_at hl 0 rfl) ?_
  refine lv_iconst (v := 0) hx hb dX10_init_18 (by decide) ?_
  refine va_put (D := D) (ci := 10) (v := .int 0) (ty := .int) (C := RX10) (T := TX10) (N := 7) hx hb ht zinX10 tyX10 tyX10_ok nmX10 hown hK hP hD hS 0 rfl rfl 3 (by decide) (ht _ zw_215) (fun _ h9 => h9) rfl (by decide +kernel) rfl rfl (Nat.le_of_ble_eq_true rfl) dX10_init_19 (fun H locs hP hD hS => ?_)
  have hP : va_P D vwCl [(b, .inr (10, [.null, .int 0, .ref q_1, .int 0, .null, .int 0, .int 0])), (q_1, .inl (cA_1, 40, .inl (fun _ => 0)))] H := hP
  have hD : va_D A [(b, .inr (10, [.null, .int 0, .ref q_1, .int 0, .null, .int 0, .int 0])), (q_1, .inl (cA_1, 40, .inl (fun _ => 0)))] := hD
  refine lv_aload_n hx hb dX10_init_22 rfl (lv_at hl 0 rfl) ?_
  refine lv_bipush (v := 40) hx hb dX10_init_23 (by decide) ?_
  refine va_newa (atype := .int) (a0 := (40, .inl (fun _ => 0))) hx hb (ht _ zw_108) rfl hK hP hD hS hA (fun _ => rfl) (by decide) rfl (Nat.le_of_ble_eq_true rfl) (Nat.le_of_ble_eq_true rfl) (Nat.le_of_ble_eq_true rfl) dX10_init_25 (fun q_2 cA_2 H hK hP hD hS => ?_)
  have hcc : cA_1 = cA_2 := za_same hK 0 1 rfl rfl
  subst hcc
  have hK := hK.sub (tys' := [(cA_1, .int)]) [0] rfl
  have hP : va_P D vwCl [(b, .inr (10, [.null, .int 0, .ref q_1, .int 0, .null, .int 0, .int 0])), (q_1, .inl (cA_1, 40, .inl (fun _ => 0))), (q_2, .inl (cA_1, 40, .inl (fun _ => 0)))] H := hP
  have hD : va_D A [(b, .inr (10, [.null, .int 0, .ref q_1, .int 0, .null, .int 0, .int 0])), (q_1, .inl (cA_1, 40, .inl (fun _ => 0))), (q_2, .inl (cA_1, 40, .inl (fun _ => 0)))] := hD
  have hK : va_K D vwCl [(cA_1, .int)] s := hK
  refine W.widen (k := 2) (n := 80) (Nat.le_of_ble_eq_true rfl) (Nat.le_of_ble_eq_true rfl) ?_
  refine va_putF (D := D) (ci := 10) (v := .ref q_2) (ty := .array .int) (C := RX10) (T := TX10) (N := 7) hx hb ht zinX10 tyX10 tyX10_ok nmX10 hown hK hP hD hS 0 rfl rfl 4 (by decide) (ht _ zw_216) (fun _ h9 => h9) rfl hin rfl (by decide +kernel) rfl rfl (Nat.le_of_ble_eq_true rfl) dX10_init_27 (fun H locs hP hD hS => ?_)
  have hP : va_P D vwCl [(b, .inr (10, [.null, .int 0, .ref q_1, .int 0, .ref q_2, .int 0, .int 0])), (q_1, .inl (cA_1, 40, .inl (fun _ => 0))), (q_2, .inl (cA_1, 40, .inl (fun _ => 0)))] H := hP
  have hD : va_D A [(b, .inr (10, [.null, .int 0, .ref q_1, .int 0, .ref q_2, .int 0, .int 0])), (q_1, .inl (cA_1, 40, .inl (fun _ => 0))), (q_2, .inl (cA_1, 40, .inl (fun _ => 0)))] := hD
  refine lv_aload_n hx hb dX10_init_30 rfl (lv_at hl 0 rfl) ?_
  refine lv_iconst (v := 0) hx hb dX10_init_31 (by decide) ?_
  refine va_put (D := D) (ci := 10) (v := .int 0) (ty := .int) (C := RX10) (T := TX10) (N := 7) hx hb ht zinX10 tyX10 tyX10_ok nmX10 hown hK hP hD hS 0 rfl rfl 5 (by decide) (ht _ zw_217) (fun _ h9 => h9) rfl (by decide +kernel) rfl rfl (Nat.le_of_ble_eq_true rfl) dX10_init_32 (fun H locs hP hD hS => ?_)
  have hP : va_P D vwCl [(b, .inr (10, [.null, .int 0, .ref q_1, .int 0, .ref q_2, .int 0, .int 0])), (q_1, .inl (cA_1, 40, .inl (fun _ => 0))), (q_2, .inl (cA_1, 40, .inl (fun _ => 0)))] H := hP
  have hD : va_D A [(b, .inr (10, [.null, .int 0, .ref q_1, .int 0, .ref q_2, .int 0, .int 0])), (q_1, .inl (cA_1, 40, .inl (fun _ => 0))), (q_2, .inl (cA_1, 40, .inl (fun _ => 0)))] := hD
  refine lv_aload_n hx hb dX10_init_35 rfl (lv_at hl 0 rfl) ?_
  refine lv_iconst (v := 0) hx hb dX10_init_36 (by decide) ?_
  refine va_put (D := D) (ci := 10) (v := .int 0) (ty := .int) (C := RX10) (T := TX10) (N := 7) hx hb ht zinX10 tyX10 tyX10_ok nmX10 hown hK hP hD hS 0 rfl rfl 6 (by decide) (ht _ zw_218) (fun _ h9 => h9) rfl (by decide +kernel) rfl rfl (Nat.le_of_ble_eq_true rfl) dX10_init_37 (fun H locs hP hD hS => ?_)
  have hP : va_P D vwCl [(b, .inr (10, [.null, .int 0, .ref q_1, .int 0, .ref q_2, .int 0, .int 0])), (q_1, .inl (cA_1, 40, .inl (fun _ => 0))), (q_2, .inl (cA_1, 40, .inl (fun _ => 0)))] H := hP
  have hD : va_D A [(b, .inr (10, [.null, .int 0, .ref q_1, .int 0, .ref q_2, .int 0, .int 0])), (q_1, .inl (cA_1, 40, .inl (fun _ => 0))), (q_2, .inl (cA_1, 40, .inl (fun _ => 0)))] := hD
  refine lv_aload_n hx hb dX10_init_40 rfl (lv_at hl 0 rfl) ?_
  refine lv_iload_n hx hb dX10_init_41 rfl (lv_at hl 1 rfl) ?_
  refine va_newa (atype := .int) (a0 := (512, .inl (fun _ => 0))) hx hb (ht _ zw_108) rfl hK hP hD hS hA (fun _ => rfl) (by decide) rfl (Nat.le_of_ble_eq_true rfl) (Nat.le_of_ble_eq_true rfl) (Nat.le_of_ble_eq_true rfl) dX10_init_42 (fun q_3 cA_3 H hK hP hD hS => ?_)
  have hcc : cA_1 = cA_3 := za_same hK 0 1 rfl rfl
  subst hcc
  have hK := hK.sub (tys' := [(cA_1, .int)]) [0] rfl
  have hP : va_P D vwCl [(b, .inr (10, [.null, .int 0, .ref q_1, .int 0, .ref q_2, .int 0, .int 0])), (q_1, .inl (cA_1, 40, .inl (fun _ => 0))), (q_2, .inl (cA_1, 40, .inl (fun _ => 0))), (q_3, .inl (cA_1, 512, .inl (fun _ => 0)))] H := hP
  have hD : va_D A [(b, .inr (10, [.null, .int 0, .ref q_1, .int 0, .ref q_2, .int 0, .int 0])), (q_1, .inl (cA_1, 40, .inl (fun _ => 0))), (q_2, .inl (cA_1, 40, .inl (fun _ => 0))), (q_3, .inl (cA_1, 512, .inl (fun _ => 0)))] := hD
  have hK : va_K D vwCl [(cA_1, .int)] s := hK
  refine W.widen (k := 3) (n := 592) (Nat.le_of_ble_eq_true rfl) (Nat.le_of_ble_eq_true rfl) ?_
  refine va_putF (D := D) (ci := 10) (v := .ref q_3) (ty := .array .int) (C := RX10) (T := TX10) (N := 7) hx hb ht zinX10 tyX10 tyX10_ok nmX10 hown hK hP hD hS 0 rfl rfl 0 (by decide) (ht _ zw_219) (fun _ h9 => h9) rfl hin rfl (by decide +kernel) rfl rfl (Nat.le_of_ble_eq_true rfl) dX10_init_44 (fun H locs hP hD hS => ?_)
  have hP : va_P D vwCl [(b, .inr (10, [.ref q_3, .int 0, .ref q_1, .int 0, .ref q_2, .int 0, .int 0])), (q_1, .inl (cA_1, 40, .inl (fun _ => 0))), (q_2, .inl (cA_1, 40, .inl (fun _ => 0))), (q_3, .inl (cA_1, 512, .inl (fun _ => 0)))] H := hP
  have hD : va_D A [(b, .inr (10, [.ref q_3, .int 0, .ref q_1, .int 0, .ref q_2, .int 0, .int 0])), (q_1, .inl (cA_1, 40, .inl (fun _ => 0))), (q_2, .inl (cA_1, 40, .inl (fun _ => 0))), (q_3, .inl (cA_1, 512, .inl (fun _ => 0)))] := hD
  have hP9 := hP.sub (ws' := [(b, .inr (10, [.ref q_3, .int 0, .ref q_1, .int 0, .ref q_2, .int 0, .int 0])), (q_3, .inl (cA_1, 512, .inl (fun _ => 0))), (q_1, .inl (cA_1, 40, .inl (fun _ => 0))), (q_2, .inl (cA_1, 40, .inl (fun _ => 0)))]) [0, 3, 1, 2] rfl
  have hD9 := hD.sub (ws' := [(b, .inr (10, [.ref q_3, .int 0, .ref q_1, .int 0, .ref q_2, .int 0, .int 0])), (q_3, .inl (cA_1, 512, .inl (fun _ => 0))), (q_1, .inl (cA_1, 40, .inl (fun _ => 0))), (q_2, .inl (cA_1, 40, .inl (fun _ => 0)))]) [0, 3, 1, 2] (by decide) rfl
  have hK9 := hK.sub (tys' := [(cA_1, .int)]) [0] rfl
  refine W.widen (k := 3) (n := 592) (Nat.le_of_ble_eq_true rfl) (Nat.le_of_ble_eq_true rfl) ?_
  exact W.vret hx hb hr (fun t ht0 hW => ⟨⟨(), rfl, trivial, q_3, q_1, q_2, cA_1, zE_of hP9 hK9 hD9 ht0 hW⟩, hS.F ht0⟩) hS.2.2 dX10_init_47
set_option maxHeartbeats 4000000 in
set_option maxRecDepth 100000 in
theorem k_X9_init_1600 (l : Launch) (sz : Nat) (D : va_G) (b : Nat) : Met l yX9_init (.code yX9_init cX9_init 2 none :: zT) ({ frames := 1, cells := 3, slots := 4800, locals := 12 }) (va_Pc [.ref b, .int 1600] (zX zTab D [(b, .inr (9, [.null, .null, .null, .int 0, .int 0, .int 0]))] [] sz)) (va_Qv (fun (_ : Unit) => True) (fun _ t => ∃ (q1 : Nat) (q2 : Nat) (q3 : Nat) (cI : ClassId), zE D [(b, .inr (9, [.ref q1, .ref q2, .ref q3, .int 0, .int 0, .int 0])), (q1, .inl (cI, 1600, .inl (fun _ => 0))), (q2, .inl (cI, 1600, .inl (fun _ => 0))), (q3, .inl (cI, 1600, .inl (fun _ => 0)))] [(cI, .int)] (va_A [(b, .inr (9, [.null, .null, .null, .int 0, .int 0, .int 0]))] sz) t) (va_A [(b, .inr (9, [.null, .null, .null, .int 0, .int 0, .int 0]))] sz)) 3 4800 (va_A [(b, .inr (9, [.null, .null, .null, .int 0, .int 0, .int 0]))] sz) := by
  refine Met.ofW (cc := cX9_init) (maxL := 2) (ret := none) (by decide) rfl ?_
  intro p e s m args below meth c s₁ B hml hv
  obtain ⟨rfl, hX, hsz, hP, hK, hD0⟩ := hv
  have hx := B.exec
  have hb := B.bytes
  have hr := B.returns
  have hts := atoms_spec (ws := (.code yX9_init cX9_init 2 none :: zT)) B.pre
  have ht : ∀ w ∈ zT, w.before _ s = true := fun w h => hts w (List.mem_cons_of_mem _ h)
  have hown : s.vm.findClass RX9 = some m.cls := findClass_of_methodNamed B.named
  have hlocks := B.notSynchronized
  have hin : meth.name = "<init>" := (name_of_methodNamed B.named B.method).1
  subst hsz
  have hD := hD0.self (sz := s.heap.size)
  generalize hAe : va_A [(b, .inr (9, [.null, .null, .null, .int 0, .int 0, .int 0]))] s.heap.size = A at hD ⊢
  have hA : ∀ q : Nat, s.heap.size ≤ q → A q := fun q h => by rw [← hAe]; exact Or.inr h
  have hS : va_S A s.heap s.heap [] := va_S.rf
  have hP : va_P D vwCl [(b, .inr (9, [.null, .null, .null, .int 0, .int 0, .int 0]))] s.heap := hP
  have hl := lv_entry ([.ref b, .int 1600]) (n := 2) (Nat.le_of_ble_eq_true rfl)
  rw [lg_entry_eq]
  generalize (lg_sl ([.ref b, .int 1600]) ++ List.replicate (2 - (lg_sl ([.ref b, .int 1600])).length) Slot.unset).toArray = ls at hl ⊢
  have hl : lv_has ls 2 [(0, .ref b), (1, .int 1600)] := hl
  skip
  refine lv_aload_n hx hb dX9_init_0 rfl (lv_at hl 0 rfl) ?_
  refine W.objInit hx hb hown (ht _ zw_220) (ht _ zw_145) (ht _ zw_146) rfl (by rw [hml]; exact hl.1) rfl dX9_init_1 (Nat.le_of_ble_eq_true rfl) (Nat.le_of_ble_eq_true rfl) ?_
  refine W.eq (g2 := F0 m 4 ls []) rfl ?_
  refine lv_aload_n hx hb dX9_init_4 rfl (lv_at hl 0 rfl) ?_
  refine lv_iload_n hx hb dX9_init_5 rfl (lv_at hl 1 rfl) ?_
  refine va_newa (atype := .int) (a0 := (1600, .inl (fun _ => 0))) hx hb (ht _ zw_108) rfl hK hP hD hS hA (fun _ => rfl) (by decide) rfl (Nat.le_of_ble_eq_true rfl) (Nat.le_of_ble_eq_true rfl) (Nat.le_of_ble_eq_true rfl) dX9_init_6 (fun q_1 cA_1 H hK hP hD hS => ?_)
  have hP : va_P D vwCl [(b, .inr (9, [.null, .null, .null, .int 0, .int 0, .int 0])), (q_1, .inl (cA_1, 1600, .inl (fun _ => 0)))] H := hP
  have hD : va_D A [(b, .inr (9, [.null, .null, .null, .int 0, .int 0, .int 0])), (q_1, .inl (cA_1, 1600, .inl (fun _ => 0)))] := hD
  have hK : va_K D vwCl [(cA_1, .int)] s := hK
  refine W.widen (k := 1) (n := 1600) (Nat.le_of_ble_eq_true rfl) (Nat.le_of_ble_eq_true rfl) ?_
  refine va_putF (D := D) (ci := 9) (v := .ref q_1) (ty := .array .int) (C := RX9) (T := TX9) (N := 6) hx hb ht zinX9 tyX9 tyX9_ok nmX9 hown hK hP hD hS 0 rfl rfl 0 (by decide) (ht _ zw_227) (fun _ h9 => h9) rfl hin rfl (by decide +kernel) rfl rfl (Nat.le_of_ble_eq_true rfl) dX9_init_8 (fun H locs hP hD hS => ?_)
  have hP : va_P D vwCl [(b, .inr (9, [.ref q_1, .null, .null, .int 0, .int 0, .int 0])), (q_1, .inl (cA_1, 1600, .inl (fun _ => 0)))] H := hP
  have hD : va_D A [(b, .inr (9, [.ref q_1, .null, .null, .int 0, .int 0, .int 0])), (q_1, .inl (cA_1, 1600, .inl (fun _ => 0)))] := hD
  refine lv_aload_n hx hb dX9_init_11 rfl (lv_at hl 0 rfl) ?_
  refine lv_iload_n hx hb dX9_init_12 rfl (lv_at hl 1 rfl) ?_
  refine va_newa (atype := .int) (a0 := (1600, .inl (fun _ => 0))) hx hb (ht _ zw_108) rfl hK hP hD hS hA (fun _ => rfl) (by decide) rfl (Nat.le_of_ble_eq_true rfl) (Nat.le_of_ble_eq_true rfl) (Nat.le_of_ble_eq_true rfl) dX9_init_13 (fun q_2 cA_2 H hK hP hD hS => ?_)
  have hcc : cA_1 = cA_2 := za_same hK 0 1 rfl rfl
  subst hcc
  have hK := hK.sub (tys' := [(cA_1, .int)]) [0] rfl
  have hP : va_P D vwCl [(b, .inr (9, [.ref q_1, .null, .null, .int 0, .int 0, .int 0])), (q_1, .inl (cA_1, 1600, .inl (fun _ => 0))), (q_2, .inl (cA_1, 1600, .inl (fun _ => 0)))] H := hP
  have hD : va_D A [(b, .inr (9, [.ref q_1, .null, .null, .int 0, .int 0, .int 0])), (q_1, .inl (cA_1, 1600, .inl (fun _ => 0))), (q_2, .inl (cA_1, 1600, .inl (fun _ => 0)))] := hD
  have hK : va_K D vwCl [(cA_1, .int)] s := hK
  refine W.widen (k := 2) (n := 3200) (Nat.le_of_ble_eq_true rfl) (Nat.le_of_ble_eq_true rfl) ?_
  refine va_putF (D := D) (ci := 9) (v := .ref q_2) (ty := .array .int) (C := RX9) (T := TX9) (N := 6) hx hb ht zinX9 tyX9 tyX9_ok nmX9 hown hK hP hD hS 0 rfl rfl 1 (by decide) (ht _ zw_228) (fun _ h9 => h9) rfl hin rfl (by decide +kernel) rfl rfl (Nat.le_of_ble_eq_true rfl) dX9_init_15 (fun H locs hP hD hS => ?_)
  have hP : va_P D vwCl [(b, .inr (9, [.ref q_1, .ref q_2, .null, .int 0, .int 0, .int 0])), (q_1, .inl (cA_1, 1600, .inl (fun _ => 0))), (q_2, .inl (cA_1, 1600, .inl (fun _ => 0)))] H := hP
  have hD : va_D A [(b, .inr (9, [.ref q_1, .ref q_2, .null, .int 0, .int 0, .int 0])), (q_1, .inl (cA_1, 1600, .inl (fun _ => 0))), (q_2, .inl (cA_1, 1600, .inl (fun _ => 0)))] := hD
  refine lv_aload_n hx hb dX9_init_18 rfl (lv_at hl 0 rfl) ?_
  refine lv_iload_n hx hb dX9_init_19 rfl (lv_at hl 1 rfl) ?_
  refine va_newa (atype := .int) (a0 := (1600, .inl (fun _ => 0))) hx hb (ht _ zw_108) rfl hK hP hD hS hA (fun _ => rfl) (by decide) rfl (Nat.le_of_ble_eq_true rfl) (Nat.le_of_ble_eq_true rfl) (Nat.le_of_ble_eq_true rfl) dX9_init_20 (fun q_3 cA_3 H hK hP hD hS => ?_)
  have hcc : cA_1 = cA_3 := za_same hK 0 1 rfl rfl
  subst hcc
  have hK := hK.sub (tys' := [(cA_1, .int)]) [0] rfl
  have hP : va_P D vwCl [(b, .inr (9, [.ref q_1, .ref q_2, .null, .int 0, .int 0, .int 0])), (q_1, .inl (cA_1, 1600, .inl (fun _ => 0))), (q_2, .inl (cA_1, 1600, .inl (fun _ => 0))), (q_3, .inl (cA_1, 1600, .inl (fun _ => 0)))] H := hP
  have hD : va_D A [(b, .inr (9, [.ref q_1, .ref q_2, .null, .int 0, .int 0, .int 0])), (q_1, .inl (cA_1, 1600, .inl (fun _ => 0))), (q_2, .inl (cA_1, 1600, .inl (fun _ => 0))), (q_3, .inl (cA_1, 1600, .inl (fun _ => 0)))] := hD
  have hK : va_K D vwCl [(cA_1, .int)] s := hK
  refine W.widen (k := 3) (n := 4800) (Nat.le_of_ble_eq_true rfl) (Nat.le_of_ble_eq_true rfl) ?_
  refine va_putF (D := D) (ci := 9) (v := .ref q_3) (ty := .array .int) (C := RX9) (T := TX9) (N := 6) hx hb ht zinX9 tyX9 tyX9_ok nmX9 hown hK hP hD hS 0 rfl rfl 2 (by decide) (ht _ zw_229) (fun _ h9 => h9) rfl hin rfl (by decide +kernel) rfl rfl (Nat.le_of_ble_eq_true rfl) dX9_init_22 (fun H locs hP hD hS => ?_)
  have hP : va_P D vwCl [(b, .inr (9, [.ref q_1, .ref q_2, .ref q_3, .int 0, .int 0, .int 0])), (q_1, .inl (cA_1, 1600, .inl (fun _ => 0))), (q_2, .inl (cA_1, 1600, .inl (fun _ => 0))), (q_3, .inl (cA_1, 1600, .inl (fun _ => 0)))] H := hP
  have hD : va_D A [(b, .inr (9, [.ref q_1, .ref q_2, .ref q_3, .int 0, .int 0, .int 0])), (q_1, .inl (cA_1, 1600, .inl (fun _ => 0))), (q_2, .inl (cA_1, 1600, .inl (fun _ => 0))), (q_3, .inl (cA_1, 1600, .inl (fun _ => 0)))] := hD
  have hP9 := hP.sub (ws' := [(b, .inr (9, [.ref q_1, .ref q_2, .ref q_3, .int 0, .int 0, .int 0])), (q_1, .inl (cA_1, 1600, .inl (fun _ => 0))), (q_2, .inl (cA_1, 1600, .inl (fun _ => 0))), (q_3, .inl (cA_1, 1600, .inl (fun _ => 0)))]) [0, 1, 2, 3] rfl
  have hD9 := hD.sub (ws' := [(b, .inr (9, [.ref q_1, .ref q_2, .ref q_3, .int 0, .int 0, .int 0])), (q_1, .inl (cA_1, 1600, .inl (fun _ => 0))), (q_2, .inl (cA_1, 1600, .inl (fun _ => 0))), (q_3, .inl (cA_1, 1600, .inl (fun _ => 0)))]) [0, 1, 2, 3] (by decide) rfl
  have hK9 := hK.sub (tys' := [(cA_1, .int)]) [0] rfl
  refine W.widen (k := 3) (n := 4800) (Nat.le_of_ble_eq_true rfl) (Nat.le_of_ble_eq_true rfl) ?_
  exact W.vret hx hb hr (fun t ht0 hW => ⟨⟨(), rfl, trivial, q_1, q_2, q_3, cA_1, zE_of hP9 hK9 hD9 ht0 hW⟩, hS.F ht0⟩) hS.2.2 dX9_init_25
set_option maxHeartbeats 4000000 in
set_option maxRecDepth 100000 in
theorem k_X9_init_40 (l : Launch) (sz : Nat) (D : va_G) (b : Nat) : Met l yX9_init (.code yX9_init cX9_init 2 none :: zT) ({ frames := 1, cells := 3, slots := 120, locals := 12 }) (va_Pc [.ref b, .int 40] (zX zTab D [(b, .inr (9, [.null, .null, .null, .int 0, .int 0, .int 0]))] [] sz)) (va_Qv (fun (_ : Unit) => True) (fun _ t => ∃ (q1 : Nat) (q2 : Nat) (q3 : Nat) (cI : ClassId), zE D [(b, .inr (9, [.ref q1, .ref q2, .ref q3, .int 0, .int 0, .int 0])), (q1, .inl (cI, 40, .inl (fun _ => 0))), (q2, .inl (cI, 40, .inl (fun _ => 0))), (q3, .inl (cI, 40, .inl (fun _ => 0)))] [(cI, .int)] (va_A [(b, .inr (9, [.null, .null, .null, .int 0, .int 0, .int 0]))] sz) t) (va_A [(b, .inr (9, [.null, .null, .null, .int 0, .int 0, .int 0]))] sz)) 3 120 (va_A [(b, .inr (9, [.null, .null, .null, .int 0, .int 0, .int 0]))] sz) := by
  refine Met.ofW (cc := cX9_init) (maxL := 2) (ret := none) (by decide) rfl ?_
  intro p e s m args below meth c s₁ B hml hv
  obtain ⟨rfl, hX, hsz, hP, hK, hD0⟩ := hv
  have hx := B.exec
  have hb := B.bytes
  have hr := B.returns
  have hts := atoms_spec (ws := (.code yX9_init cX9_init 2 none :: zT)) B.pre
  have ht : ∀ w ∈ zT, w.before _ s = true := fun w h => hts w (List.mem_cons_of_mem _ h)
  have hown : s.vm.findClass RX9 = some m.cls := findClass_of_methodNamed B.named
  have hlocks := B.notSynchronized
  have hin : meth.name = "<init>" := (name_of_methodNamed B.named B.method).1
  subst hsz
  have hD := hD0.self (sz := s.heap.size)
  generalize hAe : va_A [(b, .inr (9, [.null, .null, .null, .int 0, .int 0, .int 0]))] s.heap.size = A at hD ⊢
  have hA : ∀ q : Nat, s.heap.size ≤ q → A q := fun q h => by rw [← hAe]; exact Or.inr h
  have hS : va_S A s.heap s.heap [] := va_S.rf
  have hP : va_P D vwCl [(b, .inr (9, [.null, .null, .null, .int 0, .int 0, .int 0]))] s.heap := hP
  have hl := lv_entry ([.ref b, .int 40]) (n := 2) (Nat.le_of_ble_eq_true rfl)
  rw [lg_entry_eq]
  generalize (lg_sl ([.ref b, .int 40]) ++ List.replicate (2 - (lg_sl ([.ref b, .int 40])).length) Slot.unset).toArray = ls at hl ⊢
  have hl : lv_has ls 2 [(0, .ref b), (1, .int 40)] := hl
  skip
  refine lv_aload_n hx hb dX9_init_0 rfl (lv_at hl 0 rfl) ?_
  refine W.objInit hx hb hown (ht _ zw_220) (ht _ zw_145) (ht _ zw_146) rfl (by rw [hml]; exact hl.1) rfl dX9_init_1 (Nat.le_of_ble_eq_true rfl) (Nat.le_of_ble_eq_true rfl) ?_
  refine W.eq (g2 := F0 m 4 ls []) rfl ?_
  refine lv_aload_n hx hb dX9_init_4 rfl (lv_at hl 0 rfl) ?_
  refine lv_iload_n hx hb dX9_init_5 rfl (lv_at hl 1 rfl) ?_
  refine va_newa (atype := .int) (a0 := (40, .inl (fun _ => 0))) hx hb (ht _ zw_108) rfl hK hP hD hS hA (fun _ => rfl) (by decide) rfl (Nat.le_of_ble_eq_true rfl) (Nat.le_of_ble_eq_true rfl) (Nat.le_of_ble_eq_true rfl) dX9_init_6 (fun q_1 cA_1 H hK hP hD hS => ?_)
  have hP : va_P D vwCl [(b, .inr (9, [.null, .null, .null, .int 0, .int 0, .int 0])), (q_1, .inl (cA_1, 40, .inl (fun _ => 0)))] H := hP
  have hD : va_D A [(b, .inr (9, [.null, .null, .null, .int 0, .int 0, .int 0])), (q_1, .inl (cA_1, 40, .inl (fun _ => 0)))] := hD
  have hK : va_K D vwCl [(cA_1, .int)] s := hK
  refine W.widen (k := 1) (n := 40) (Nat.le_of_ble_eq_true rfl) (Nat.le_of_ble_eq_true rfl) ?_
  refine va_putF (D := D) (ci := 9) (v := .ref q_1) (ty := .array .int) (C := RX9) (T := TX9) (N := 6) hx hb ht zinX9 tyX9 tyX9_ok nmX9 hown hK hP hD hS 0 rfl rfl 0 (by decide) (ht _ zw_227) (fun _ h9 => h9) rfl hin rfl (by decide +kernel) rfl rfl (Nat.le_of_ble_eq_true rfl) dX9_init_8 (fun H locs hP hD hS => ?_)
  have hP : va_P D vwCl [(b, .inr (9, [.ref q_1, .null, .null, .int 0, .int 0, .int 0])), (q_1, .inl (cA_1, 40, .inl (fun _ => 0)))] H := hP
  have hD : va_D A [(b, .inr (9, [.ref q_1, .null, .null, .int 0, .int 0, .int 0])), (q_1, .inl (cA_1, 40, .inl (fun _ => 0)))] := hD
  refine lv_aload_n hx hb dX9_init_11 rfl (lv_at hl 0 rfl) ?_
  refine lv_iload_n hx hb dX9_init_12 rfl (lv_at hl 1 rfl) ?_
  refine va_newa (atype := .int) (a0 := (40, .inl (fun _ => 0))) hx hb (ht _ zw_108) rfl hK hP hD hS hA (fun _ => rfl) (by decide) rfl (Nat.le_of_ble_eq_true rfl) (Nat.le_of_ble_eq_true rfl) (Nat.le_of_ble_eq_true rfl) dX9_init_13 (fun q_2 cA_2 H hK hP hD hS => ?_)
  have hcc : cA_1 = cA_2 := za_same hK 0 1 rfl rfl
  subst hcc
  have hK := hK.sub (tys' := [(cA_1, .int)]) [0] rfl
  have hP : va_P D vwCl [(b, .inr (9, [.ref q_1, .null, .null, .int 0, .int 0, .int 0])), (q_1, .inl (cA_1, 40, .inl (fun _ => 0))), (q_2, .inl (cA_1, 40, .inl (fun _ => 0)))] H := hP
  have hD : va_D A [(b, .inr (9, [.ref q_1, .null, .null, .int 0, .int 0, .int 0])), (q_1, .inl (cA_1, 40, .inl (fun _ => 0))), (q_2, .inl (cA_1, 40, .inl (fun _ => 0)))] := hD
  have hK : va_K D vwCl [(cA_1, .int)] s := hK
  refine W.widen (k := 2) (n := 80) (Nat.le_of_ble_eq_true rfl) (Nat.le_of_ble_eq_true rfl) ?_
  refine va_putF (D := D) (ci := 9) (v := .ref q_2) (ty := .array .int) (C := RX9) (T := TX9) (N := 6) hx hb ht zinX9 tyX9 tyX9_ok nmX9 hown hK hP hD hS 0 rfl rfl 1 (by decide) (ht _ zw_228) (fun _ h9 => h9) rfl hin rfl (by decide +kernel) rfl rfl (Nat.le_of_ble_eq_true rfl) dX9_init_15 (fun H locs hP hD hS => ?_)
  have hP : va_P D vwCl [(b, .inr (9, [.ref q_1, .ref q_2, .null, .int 0, .int 0, .int 0])), (q_1, .inl (cA_1, 40, .inl (fun _ => 0))), (q_2, .inl (cA_1, 40, .inl (fun _ => 0)))] H := hP
  have hD : va_D A [(b, .inr (9, [.ref q_1, .ref q_2, .null, .int 0, .int 0, .int 0])), (q_1, .inl (cA_1, 40, .inl (fun _ => 0))), (q_2, .inl (cA_1, 40, .inl (fun _ => 0)))] := hD
  refine lv_aload_n hx hb dX9_init_18 rfl (lv_at hl 0 rfl) ?_
  refine lv_iload_n hx hb dX9_init_19 rfl (lv_at hl 1 rfl) ?_
  refine va_newa (atype := .int) (a0 := (40, .inl (fun _ => 0))) hx hb (ht _ zw_108) rfl hK hP hD hS hA (fun _ => rfl) (by decide) rfl (Nat.le_of_ble_eq_true rfl) (Nat.le_of_ble_eq_true rfl) (Nat.le_of_ble_eq_true rfl) dX9_init_20 (fun q_3 cA_3 H hK hP hD hS => ?_)
  have hcc : cA_1 = cA_3 := za_same hK 0 1 rfl rfl
  subst hcc
  have hK := hK.sub (tys' := [(cA_1, .int)]) [0] rfl
  have hP : va_P D vwCl [(b, .inr (9, [.ref q_1, .ref q_2, .null, .int 0, .int 0, .int 0])), (q_1, .inl (cA_1, 40, .inl (fun _ => 0))), (q_2, .inl (cA_1, 40, .inl (fun _ => 0))), (q_3, .inl (cA_1, 40, .inl (fun _ => 0)))] H := hP
  have hD : va_D A [(b, .inr (9, [.ref q_1, .ref q_2, .null, .int 0, .int 0, .int 0])), (q_1, .inl (cA_1, 40, .inl (fun _ => 0))), (q_2, .inl (cA_1, 40, .inl (fun _ => 0))), (q_3, .inl (cA_1, 40, .inl (fun _ => 0)))] := hD
  have hK : va_K D vwCl [(cA_1, .int)] s := hK
  refine W.widen (k := 3) (n := 120) (Nat.le_of_ble_eq_true rfl) (Nat.le_of_ble_eq_true rfl) ?_
  refine va_putF (D := D) (ci := 9) (v := .ref q_3) (ty := .array .int) (C := RX9) (T := TX9) (N := 6) hx hb ht zinX9 tyX9 tyX9_ok nmX9 hown hK hP hD hS 0 rfl rfl 2 (by decide) (ht _ zw_229) (fun _ h9 => h9) rfl hin rfl (by decide +kernel) rfl rfl (Nat.le_of_ble_eq_true rfl) dX9_init_22 (fun H locs hP hD hS => ?_)
  have hP : va_P D vwCl [(b, .inr (9, [.ref q_1, .ref q_2, .ref q_3, .int 0, .int 0, .int 0])), (q_1, .inl (cA_1, 40, .inl (fun _ => 0))), (q_2, .inl (cA_1, 40, .inl (fun _ => 0))), (q_3, .inl (cA_1, 40, .inl (fun _ => 0)))] H := hP
  have hD : va_D A [(b, .inr (9, [.ref q_1, .ref q_2, .ref q_3, .int 0, .int 0, .int 0])), (q_1, .inl (cA_1, 40, .inl (fun _ => 0))), (q_2, .inl (cA_1, 40, .inl (fun _ => 0))), (q_3, .inl (cA_1, 40, .inl (fun _ => 0)))] := hD
  have hP9 := hP.sub (ws' := [(b, .inr (9, [.ref q_1, .ref q_2, .ref q_3, .int 0, .int 0, .int 0])), (q_1, .inl (cA_1, 40, .inl (fun _ => 0))), (q_2, .inl (cA_1, 40, .inl (fun _ => 0))), (q_3, .inl (cA_1, 40, .inl (fun _ => 0)))]) [0, 1, 2, 3] rfl
  have hD9 := hD.sub (ws' := [(b, .inr (9, [.ref q_1, .ref q_2, .ref q_3, .int 0, .int 0, .int 0])), (q_1, .inl (cA_1, 40, .inl (fun _ => 0))), (q_2, .inl (cA_1, 40, .inl (fun _ => 0))), (q_3, .inl (cA_1, 40, .inl (fun _ => 0)))]) [0, 1, 2, 3] (by decide) rfl
  have hK9 := hK.sub (tys' := [(cA_1, .int)]) [0] rfl
  refine W.widen (k := 3) (n := 120) (Nat.le_of_ble_eq_true rfl) (Nat.le_of_ble_eq_true rfl) ?_
  exact W.vret hx hb hr (fun t ht0 hW => ⟨⟨(), rfl, trivial, q_1, q_2, q_3, cA_1, zE_of hP9 hK9 hD9 ht0 hW⟩, hS.F ht0⟩) hS.2.2 dX9_init_25
set_option maxHeartbeats 4000000 in
set_option maxRecDepth 100000 in
theorem k_X9_init_1 (l : Launch) (sz : Nat) (D : va_G) (b : Nat) : Met l yX9_init (.code yX9_init cX9_init 2 none :: zT) ({ frames := 1, cells := 3, slots := 3, locals := 12 }) (va_Pc [.ref b, .int 1] (zX zTab D [(b, .inr (9, [.null, .null, .null, .int 0, .int 0, .int 0]))] [] sz)) (va_Qv (fun (_ : Unit) => True) (fun _ t => ∃ (q1 : Nat) (q2 : Nat) (q3 : Nat) (cI : ClassId), zE D [(b, .inr (9, [.ref q1, .ref q2, .ref q3, .int 0, .int 0, .int 0])), (q1, .inl (cI, 1, .inl (fun _ => 0))), (q2, .inl (cI, 1, .inl (fun _ => 0))), (q3, .inl (cI, 1, .inl (fun _ => 0)))] [(cI, .int)] (va_A [(b, .inr (9, [.null, .null, .null, .int 0, .int 0, .int 0]))] sz) t) (va_A [(b, .inr (9, [.null, .null, .null, .int 0, .int 0, .int 0]))] sz)) 3 3 (va_A [(b, .inr (9, [.null, .null, .null, .int 0, .int 0, .int 0]))] sz) := by
  refine Met.ofW (cc := cX9_init) (maxL := 2) (ret := none) (by decide) rfl ?_
  intro p e s m args below meth c s₁ B hml hv
  obtain ⟨rfl, hX, hsz, hP, hK, hD0⟩ := hv
  have hx := B.exec
  have hb := B.bytes
  have hr := B.returns
  have hts := atoms_spec (ws := (.code yX9_init cX9_init 2 none :: zT)) B.pre
  have ht : ∀ w ∈ zT, w.before _ s = true := fun w h => hts w (List.mem_cons_of_mem _ h)
  have hown : s.vm.findClass RX9 = some m.cls := findClass_of_methodNamed B.named
  have hlocks := B.notSynchronized
  have hin : meth.name = "<init>" := (name_of_methodNamed B.named B.method).1
  subst hsz
  have hD := hD0.self (sz := s.heap.size)
  generalize hAe : va_A [(b, .inr (9, [.null, .null, .null, .int 0, .int 0, .int 0]))] s.heap.size = A at hD ⊢
  have hA : ∀ q : Nat, s.heap.size ≤ q → A q := fun q h => by rw [← hAe]; exact Or.inr h
  have hS : va_S A s.heap s.heap [] := va_S.rf
  have hP : va_P D vwCl [(b, .inr (9, [.null, .null, .null, .int 0, .int 0, .int 0]))] s.heap := hP
  have hl := lv_entry ([.ref b, .int 1]) (n := 2) (Nat.le_of_ble_eq_true rfl)
  rw [lg_entry_eq]
  generalize (lg_sl ([.ref b, .int 1]) ++ List.replicate (2 - (lg_sl ([.ref b, .int 1])).length) Slot.unset).toArray = ls at hl ⊢
  have hl : lv_has ls 2 [(0, .ref b), (1, .int 1)] := hl
  skip
  refine lv_aload_n hx hb dX9_init_0 rfl (lv_at hl 0 rfl) ?_
  refine W.objInit hx hb hown (ht _ zw_220) (ht _ zw_145) (ht _ zw_146) rfl (by rw [hml]; exact hl.1) rfl dX9_init_1 (Nat.le_of_ble_eq_true rfl) (Nat.le_of_ble_eq_true rfl) ?_
  refine W.eq (g2 := F0 m 4 ls []) rfl ?_
  refine lv_aload_n hx hb dX9_init_4 rfl (lv_at hl 0 rfl) ?_
  refine lv_iload_n hx hb dX9_init_5 rfl (lv_at hl 1 rfl) ?_
  refine va_newa (atype := .int) (a0 := (1, .inl (fun _ => 0))) hx hb (ht _ zw_108) rfl hK hP hD hS hA (fun _ => rfl) (by decide) rfl (Nat.le_of_ble_eq_true rfl) (Nat.le_of_ble_eq_true rfl) (Nat.le_of_ble_eq_true rfl) dX9_init_6 (fun q_1 cA_1 H hK hP hD hS => ?_)
  have hP : va_P D vwCl [(b, .inr (9, [.null, .null, .null, .int 0, .int 0, .int 0])), (q_1, .inl (cA_1, 1, .inl (fun _ => 0)))] H := hP
  have hD : va_D A [(b, .inr (9, [.null, .null, .null, .int 0, .int 0, .int 0])), (q_1, .inl (cA_1, 1, .inl (fun _ => 0)))] := hD
  have hK : va_K D vwCl [(cA_1, .int)] s := hK
  refine W.widen (k := 1) (n := 1) (Nat.le_of_ble_eq_true rfl) (Nat.le_of_ble_eq_true rfl) ?_
  refine va_putF (D := D) (ci := 9) (v := .ref q_1) (ty := .array .int) (C := RX9) (T := TX9) (N := 6) hx hb ht zinX9 tyX9 tyX9_ok nmX9 hown hK hP hD hS 0 rfl rfl 0 (by decide) (ht _ zw_227) (fun _ h9 => h9) rfl hin rfl (by decide +kernel) rfl rfl (Nat.le_of_ble_eq_true rfl) dX9_init_8 (fun H locs hP hD hS => ?_)
  have hP : va_P D vwCl [(b, .inr (9, [.ref q_1, .null, .null, .int 0, .int 0, .int 0])), (q_1, .inl (cA_1, 1, .inl (fun _ => 0)))] H := hP
  have hD : va_D A [(b, .inr (9, [.ref q_1, .null, .null, .int 0, .int 0, .int 0])), (q_1, .inl (cA_1, 1, .inl (fun _ => 0)))] := hD
  refine lv_aload_n hx hb dX9_init_11 rfl (lv_at hl 0 rfl) ?_
  refine lv_iload_n hx hb dX9_init_12 rfl (lv_at hl 1 rfl) ?_
  refine va_newa (atype := .int) (a0 := (1, .inl (fun _ => 0))) hx hb (ht _ zw_108) rfl hK hP hD hS hA (fun _ => rfl) (by decide) rfl (Nat.le_of_ble_eq_true rfl) (Nat.le_of_ble_eq_true rfl) (Nat.le_of_ble_eq_true rfl) dX9_init_13 (fun q_2 cA_2 H hK hP hD hS => ?_)
  have hcc : cA_1 = cA_2 := za_same hK 0 1 rfl rfl
  subst hcc
  have hK := hK.sub (tys' := [(cA_1, .int)]) [0] rfl
  have hP : va_P D vwCl [(b, .inr (9, [.ref q_1, .null, .null, .int 0, .int 0, .int 0])), (q_1, .inl (cA_1, 1, .inl (fun _ => 0))), (q_2, .inl (cA_1, 1, .inl (fun _ => 0)))] H := hP
  have hD : va_D A [(b, .inr (9, [.ref q_1, .null, .null, .int 0, .int 0, .int 0])), (q_1, .inl (cA_1, 1, .inl (fun _ => 0))), (q_2, .inl (cA_1, 1, .inl (fun _ => 0)))] := hD
  have hK : va_K D vwCl [(cA_1, .int)] s := hK
  refine W.widen (k := 2) (n := 2) (Nat.le_of_ble_eq_true rfl) (Nat.le_of_ble_eq_true rfl) ?_
  refine va_putF (D := D) (ci := 9) (v := .ref q_2) (ty := .array .int) (C := RX9) (T := TX9) (N := 6) hx hb ht zinX9 tyX9 tyX9_ok nmX9 hown hK hP hD hS 0 rfl rfl 1 (by decide) (ht _ zw_228) (fun _ h9 => h9) rfl hin rfl (by decide +kernel) rfl rfl (Nat.le_of_ble_eq_true rfl) dX9_init_15 (fun H locs hP hD hS => ?_)
  have hP : va_P D vwCl [(b, .inr (9, [.ref q_1, .ref q_2, .null, .int 0, .int 0, .int 0])), (q_1, .inl (cA_1, 1, .inl (fun _ => 0))), (q_2, .inl (cA_1, 1, .inl (fun _ => 0)))] H := hP
  have hD : va_D A [(b, .inr (9, [.ref q_1, .ref q_2, .null, .int 0, .int 0, .int 0])), (q_1, .inl (cA_1, 1, .inl (fun _ => 0))), (q_2, .inl (cA_1, 1, .inl (fun _ => 0)))] := hD
  refine lv_aload_n hx hb dX9_init_18 rfl (lv_at hl 0 rfl) ?_
  refine lv_iload_n hx hb dX9_init_19 rfl (lv_at hl 1 rfl) ?_
  refine va_newa (atype := .int) (a0 := (1, .inl (fun _ => 0))) hx hb (ht _ zw_108) rfl hK hP hD hS hA (fun _ => rfl) (by decide) rfl (Nat.le_of_ble_eq_true rfl) (Nat.le_of_ble_eq_true rfl) (Nat.le_of_ble_eq_true rfl) dX9_init_20 (fun q_3 cA_3 H hK hP hD hS => ?_)
  have hcc : cA_1 = cA_3 := za_same hK 0 1 rfl rfl
  subst hcc
  have hK := hK.sub (tys' := [(cA_1, .int)]) [0] rfl
  have hP : va_P D vwCl [(b, .inr (9, [.ref q_1, .ref q_2, .null, .int 0, .int 0, .int 0])), (q_1, .inl (cA_1, 1, .inl (fun _ => 0))), (q_2, .inl (cA_1, 1, .inl (fun _ => 0))), (q_3, .inl (cA_1, 1, .inl (fun _ => 0)))] H := hP
  have hD : va_D A [(b, .inr (9, [.ref q_1, .ref q_2, .null, .int 0, .int 0, .int 0])), (q_1, .inl (cA_1, 1, .inl (fun _ => 0))), (q_2, .inl (cA_1, 1, .inl (fun _ => 0))), (q_3, .inl (cA_1, 1, .inl (fun _ => 0)))] := hD
  have hK : va_K D vwCl [(cA_1, .int)] s := hK
  refine W.widen (k := 3) (n := 3) (Nat.le_of_ble_eq_true rfl) (Nat.le_of_ble_eq_true rfl) ?_
  refine va_putF (D := D) (ci := 9) (v := .ref q_3) (ty := .array .int) (C := RX9) (T := TX9) (N := 6) hx hb ht zinX9 tyX9 tyX9_ok nmX9 hown hK hP hD hS 0 rfl rfl 2 (by decide) (ht _ zw_229) (fun _ h9 => h9) rfl hin rfl (by decide +kernel) rfl rfl (Nat.le_of_ble_eq_true rfl) dX9_init_22 (fun H locs hP hD hS => ?_)
  have hP : va_P D vwCl [(b, .inr (9, [.ref q_1, .ref q_2, .ref q_3, .int 0, .int 0, .int 0])), (q_1, .inl (cA_1, 1, .inl (fun _ => 0))), (q_2, .inl (cA_1, 1, .inl (fun _ => 0))), (q_3, .inl (cA_1, 1, .inl (fun _ => 0)))] H := hP
  have hD : va_D A [(b, .inr (9, [.ref q_1, .ref q_2, .ref q_3, .int 0, .int 0, .int 0])), (q_1, .inl (cA_1, 1, .inl (fun _ => 0))), (q_2, .inl (cA_1, 1, .inl (fun _ => 0))), (q_3, .inl (cA_1, 1, .inl (fun _ => 0)))] := hD
  have hP9 := hP.sub (ws' := [(b, .inr (9, [.ref q_1, .ref q_2, .ref q_3, .int 0, .int 0, .int 0])), (q_1, .inl (cA_1, 1, .inl (fun _ => 0))), (q_2, .inl (cA_1, 1, .inl (fun _ => 0))), (q_3, .inl (cA_1, 1, .inl (fun _ => 0)))]) [0, 1, 2, 3] rfl
  have hD9 := hD.sub (ws' := [(b, .inr (9, [.ref q_1, .ref q_2, .ref q_3, .int 0, .int 0, .int 0])), (q_1, .inl (cA_1, 1, .inl (fun _ => 0))), (q_2, .inl (cA_1, 1, .inl (fun _ => 0))), (q_3, .inl (cA_1, 1, .inl (fun _ => 0)))]) [0, 1, 2, 3] (by decide) rfl
  have hK9 := hK.sub (tys' := [(cA_1, .int)]) [0] rfl
  refine W.widen (k := 3) (n := 3) (Nat.le_of_ble_eq_true rfl) (Nat.le_of_ble_eq_true rfl) ?_
  exact W.vret hx hb hr (fun t ht0 hW => ⟨⟨(), rfl, trivial, q_1, q_2, q_3, cA_1, zE_of hP9 hK9 hD9 ht0 hW⟩, hS.F ht0⟩) hS.2.2 dX9_init_25
set_option maxHeartbeats 4000000 in
set_option maxRecDepth 100000 in
theorem k_X3_init (l : Launch) (sz : Nat) (D : va_G) (b : Nat) : Met l yX3_init (.code yX3_init cX3_init 1 none :: zT) ({ frames := 1, cells := 2, slots := 8, locals := 12 }) (va_Pc [.ref b] (zX zTab D [(b, .inr (3, [.null, .null]))] [] sz)) (va_Qv (fun (_ : Unit) => True) (fun _ t => zE D [] [] (va_A [(b, .inr (3, [.null, .null]))] sz) t) (va_A [(b, .inr (3, [.null, .null]))] sz)) 2 8 (va_A [(b, .inr (3, [.null, .null]))] sz) := by
  refine Met.ofW (cc := cX3_init) (maxL := 1) (ret := none) (by decide) rfl ?_
  intro p e s m args below meth c s₁ B hml hv
  obtain ⟨rfl, hX, hsz, hP, hK, hD0⟩ := hv
  have hx := B.exec
  have hb := B.bytes
  have hr := B.returns
  have hts := atoms_spec (ws := (.code yX3_init cX3_init 1 none :: zT)) B.pre
  have ht : ∀ w ∈ zT, w.before _ s = true := fun w h => hts w (List.mem_cons_of_mem _ h)
  have hown : s.vm.findClass RX3 = some m.cls := findClass_of_methodNamed B.named
  have hlocks := B.notSynchronized
  have hin : meth.name = "<init>" := (name_of_methodNamed B.named B.method).1
  subst hsz
  have hD := hD0.self (sz := s.heap.size)
  generalize hAe : va_A [(b, .inr (3, [.null, .null]))] s.heap.size = A at hD ⊢
  have hA : ∀ q : Nat, s.heap.size ≤ q → A q := fun q h => by rw [← hAe]; exact Or.inr h
  have hS : va_S A s.heap s.heap [] := va_S.rf
  have hP : va_P D vwCl [(b, .inr (3, [.null, .null]))] s.heap := hP
  have hl := lv_entry ([.ref b]) (n := 1) (Nat.le_of_ble_eq_true rfl)
  rw [lg_entry_eq]
  generalize (lg_sl ([.ref b]) ++ List.replicate (1 - (lg_sl ([.ref b])).length) Slot.unset).toArray = ls at hl ⊢
  have hl : lv_has ls 1 [(0, .ref b)] := hl
  skip
  refine lv_aload_n hx hb dX3_init_0 rfl (lv_at hl 0 rfl) ?_
  refine W.objInit hx hb hown (ht _ zw_230) (ht _ zw_145) (ht _ zw_146) rfl (by rw [hml]; exact hl.1) rfl dX3_init_1 (Nat.le_of_ble_eq_true rfl) (Nat.le_of_ble_eq_true rfl) ?_
  refine W.eq (g2 := F0 m 4 ls []) rfl ?_
  refine lv_aload_n hx hb dX3_init_4 rfl (lv_at hl 0 rfl) ?_
  refine lv_iconst (v := 4) hx hb dX3_init_5 (by decide) ?_
  refine va_newq (C := RX9) hx hb hown (ht _ zw_232) (hX.2.1 _ (by decide +kernel)) hK hP hD hS hA (by decide) rfl (Nat.le_of_ble_eq_true rfl) (Nat.le_of_ble_eq_true rfl) (Nat.le_of_ble_eq_true rfl) dX3_init_6 (fun q_1 cA_1 H hK hP hD hS => ?_)
  have hP : va_P D vwCl [(b, .inr (3, [.null, .null])), (q_1, .inl (cA_1, 4, .inr (.inr (.inr (.inr (fun _ => none))))))] H := hP
  have hD : va_D A [(b, .inr (3, [.null, .null])), (q_1, .inl (cA_1, 4, .inr (.inr (.inr (.inr (fun _ => none))))))] := hD
  have hK : va_K D vwCl [(cA_1, .object RX9)] s := hK
  refine W.widen (k := 1) (n := 4) (Nat.le_of_ble_eq_true rfl) (Nat.le_of_ble_eq_true rfl) ?_
  refine va_putF (D := D) (ci := 3) (v := .ref q_1) (ty := .array (.object "Chainwork$Term")) (C := RX3) (T := TX3) (N := 2) hx hb ht zinX3 tyX3 tyX3_ok nmX3 hown hK hP hD hS 0 rfl rfl 0 (by decide) (ht _ zw_235) (fun _ h9 => h9) rfl hin rfl (by decide +kernel) rfl rfl (Nat.le_of_ble_eq_true rfl) dX3_init_9 (fun H locs hP hD hS => ?_)
  have hP : va_P D vwCl [(b, .inr (3, [.ref q_1, .null])), (q_1, .inl (cA_1, 4, .inr (.inr (.inr (.inr (fun _ => none))))))] H := hP
  have hD : va_D A [(b, .inr (3, [.ref q_1, .null])), (q_1, .inl (cA_1, 4, .inr (.inr (.inr (.inr (fun _ => none))))))] := hD
  refine lv_aload_n hx hb dX3_init_12 rfl (lv_at hl 0 rfl) ?_
  refine lv_iconst (v := 4) hx hb dX3_init_13 (by decide) ?_
  refine va_newa (atype := .int) (a0 := (4, .inl (fun _ => 0))) hx hb (ht _ zw_108) rfl hK hP hD hS hA (fun _ => rfl) (by decide) rfl (Nat.le_of_ble_eq_true rfl) (Nat.le_of_ble_eq_true rfl) (Nat.le_of_ble_eq_true rfl) dX3_init_14 (fun q_2 cA_2 H hK hP hD hS => ?_)
  have hP : va_P D vwCl [(b, .inr (3, [.ref q_1, .null])), (q_1, .inl (cA_1, 4, .inr (.inr (.inr (.inr (fun _ => none)))))), (q_2, .inl (cA_2, 4, .inl (fun _ => 0)))] H := hP
  have hD : va_D A [(b, .inr (3, [.ref q_1, .null])), (q_1, .inl (cA_1, 4, .inr (.inr (.inr (.inr (fun _ => none)))))), (q_2, .inl (cA_2, 4, .inl (fun _ => 0)))] := hD
  have hK : va_K D vwCl [(cA_1, .object RX9), (cA_2, .int)] s := hK
  refine W.widen (k := 2) (n := 8) (Nat.le_of_ble_eq_true rfl) (Nat.le_of_ble_eq_true rfl) ?_
  refine va_putF (D := D) (ci := 3) (v := .ref q_2) (ty := .array .int) (C := RX3) (T := TX3) (N := 2) hx hb ht zinX3 tyX3 tyX3_ok nmX3 hown hK hP hD hS 0 rfl rfl 1 (by decide) (ht _ zw_236) (fun _ h9 => h9) rfl hin rfl (by decide +kernel) rfl rfl (Nat.le_of_ble_eq_true rfl) dX3_init_16 (fun H locs hP hD hS => ?_)
  have hP : va_P D vwCl [(b, .inr (3, [.ref q_1, .ref q_2])), (q_1, .inl (cA_1, 4, .inr (.inr (.inr (.inr (fun _ => none)))))), (q_2, .inl (cA_2, 4, .inl (fun _ => 0)))] H := hP
  have hD : va_D A [(b, .inr (3, [.ref q_1, .ref q_2])), (q_1, .inl (cA_1, 4, .inr (.inr (.inr (.inr (fun _ => none)))))), (q_2, .inl (cA_2, 4, .inl (fun _ => 0)))] := hD
  have hP9 := hP.sub (ws' := []) [] rfl
  have hD9 := hD.sub (ws' := []) [] (by decide) rfl
  have hK9 := hK.sub (tys' := []) [] rfl
  refine W.widen (k := 2) (n := 8) (Nat.le_of_ble_eq_true rfl) (Nat.le_of_ble_eq_true rfl) ?_
  exact W.vret hx hb hr (fun t ht0 hW => ⟨⟨(), rfl, trivial, zE_of hP9 hK9 hD9 ht0 hW⟩, hS.F ht0⟩) hS.2.2 dX3_init_19
set_option maxHeartbeats 4000000 in
set_option maxRecDepth 100000 in
theorem k_X1_init (l : Launch) (sz : Nat) (D : va_G) (b : Nat) : Met l yX1_init (.code yX1_init cX1_init 1 none :: zT) ({ frames := 2, cells := 14, slots := 9632, locals := 33 }) (va_Pc [.ref b] (zX zTab D [(b, .inr (1, [.null, .null, .null, .null, .int 0, .int 0, .int 0, .int 0, .int 0, .int 0, .int 0]))] [] sz)) (va_Qv (fun (_ : Unit) => True) (fun _ t => ∃ (q1 : Nat) (q2 : Nat) (q3 : Nat) (q4 : Nat), zE D [(b, .inr (1, [.ref q1, .ref q2, .ref q3, .ref q4, .int 0, .int 0, .int (-1), .int 0, .int (-1), .int (-1), .int 0]))] [] (va_A [(b, .inr (1, [.null, .null, .null, .null, .int 0, .int 0, .int 0, .int 0, .int 0, .int 0, .int 0]))] sz) t) (va_A [(b, .inr (1, [.null, .null, .null, .null, .int 0, .int 0, .int 0, .int 0, .int 0, .int 0, .int 0]))] sz)) 14 9632 (va_A [(b, .inr (1, [.null, .null, .null, .null, .int 0, .int 0, .int 0, .int 0, .int 0, .int 0, .int 0]))] sz) := by
  refine Met.ofW (cc := cX1_init) (maxL := 1) (ret := none) (by decide) rfl ?_
  intro p e s m args below meth c s₁ B hml hv
  obtain ⟨rfl, hX, hsz, hP, hK, hD0⟩ := hv
  have hx := B.exec
  have hb := B.bytes
  have hr := B.returns
  have hts := atoms_spec (ws := (.code yX1_init cX1_init 1 none :: zT)) B.pre
  have ht : ∀ w ∈ zT, w.before _ s = true := fun w h => hts w (List.mem_cons_of_mem _ h)
  have hown : s.vm.findClass RX1 = some m.cls := findClass_of_methodNamed B.named
  have hlocks := B.notSynchronized
  have hin : meth.name = "<init>" := (name_of_methodNamed B.named B.method).1
  subst hsz
  have hD := hD0.self (sz := s.heap.size)
  generalize hAe : va_A [(b, .inr (1, [.null, .null, .null, .null, .int 0, .int 0, .int 0, .int 0, .int 0, .int 0, .int 0]))] s.heap.size = A at hD ⊢
  have hA : ∀ q : Nat, s.heap.size ≤ q → A q := fun q h => by rw [← hAe]; exact Or.inr h
  have hS : va_S A s.heap s.heap [] := va_S.rf
  have hP : va_P D vwCl [(b, .inr (1, [.null, .null, .null, .null, .int 0, .int 0, .int 0, .int 0, .int 0, .int 0, .int 0]))] s.heap := hP
  have hl := lv_entry ([.ref b]) (n := 1) (Nat.le_of_ble_eq_true rfl)
  rw [lg_entry_eq]
  generalize (lg_sl ([.ref b]) ++ List.replicate (1 - (lg_sl ([.ref b])).length) Slot.unset).toArray = ls at hl ⊢
  have hl : lv_has ls 1 [(0, .ref b)] := hl
  skip
  refine lv_aload_n hx hb dX1_init_0 rfl (lv_at hl 0 rfl) ?_
  refine W.objInit hx hb hown (ht _ zw_237) (ht _ zw_145) (ht _ zw_146) rfl (by rw [hml]; exact hl.1) rfl dX1_init_1 (Nat.le_of_ble_eq_true rfl) (Nat.le_of_ble_eq_true rfl) ?_
  refine W.eq (g2 := F0 m 4 ls []) rfl ?_
  refine lv_aload_n hx hb dX1_init_4 rfl (lv_at hl 0 rfl) ?_
  refine va_new (ci := 3) (fs := [.null, .null]) (C := RX3) (T := TX3) (N := 2) hx hb ht zinX3 tyX3 tyX3_ok hown (ht _ zw_238) (ht _ zw_239) (ht _ zw_240) hK hP hD hS hA rfl (fun j hj => by rcases (show j = 0 ∨ j = 1 by omega) with rfl | rfl <;> rfl) (Nat.le_of_ble_eq_true rfl) (Nat.le_of_ble_eq_true rfl) dX1_init_5 (fun q_1 H hP hD hS => ?_)
  have hP : va_P D vwCl [(b, .inr (1, [.null, .null, .null, .null, .int 0, .int 0, .int 0, .int 0, .int 0, .int 0, .int 0])), (q_1, .inr (3, [.null, .null]))] H := hP
  have hD : va_D A [(b, .inr (1, [.null, .null, .null, .null, .int 0, .int 0, .int 0, .int 0, .int 0, .int 0, .int 0])), (q_1, .inr (3, [.null, .null]))] := hD
  refine W.widen (k := 1) (n := 2) (Nat.le_of_ble_eq_true rfl) (Nat.le_of_ble_eq_true rfl) ?_
  refine lv_dup hx hb dX1_init_8 rfl ?_
  have hPc := hP.sub (ws' := [(q_1, .inr (3, [.null, .null]))]) [1] rfl
  have hDc := hD.sub (ws' := [(q_1, .inr (3, [.null, .null]))]) [1] (by decide) rfl
  have hKc := hK.sub (tys' := []) [] rfl
  have hFc := va_free (wc := [(q_1, .inr (3, [.null, .null]))]) hD hS hA [1] rfl
  refine va_callv (va_runIN (As := []) (rest := [.ref q_1, .ref b]) ⟨hx, hb, hml, hown, ht⟩ (k_X3_init l _ D q_1) ⟨va_cnB 0 ht (zG zw_241) rfl rfl rfl (hX.1 _ (List.mem_of_getElem? (i := 3) rfl)) (ht _ zw_240) (by decide +kernel) ⟨Nat.le_of_ble_eq_true rfl, Nat.le_of_ble_eq_true rfl⟩, rfl, ht _ zw_242⟩ (zXw_I (fun _ _ => zTab.warm) hX hPc hKc hDc) rfl rfl hl.1 rfl (lv_room (Nat.le_of_ble_eq_true rfl)) dX1_init_9 ⟨Nat.le_of_ble_eq_true rfl, Nat.le_of_ble_eq_true rfl⟩) hS (fun q _ h => hFc q h) hFc (fun u_2 t H1 locs ht0 hvm hw_2 hB hz1 hk1 hS => ?_)
  obtain ⟨hP1, hK1, hD1⟩ := hB
  rw [ht0] at hP1
  have hK1 := va_K.moved hvm.symm hK1
  obtain ⟨hP, hD⟩ := va_join (wr := [(b, .inr (1, [.null, .null, .null, .null, .int 0, .int 0, .int 0, .int 0, .int 0, .int 0, .int 0]))]) (w1 := []) hP hD [1] [0] rfl rfl (by decide) (by decide) hk1 hFc hP1 hD1
  generalize H1 = H at hP hS ⊢
  have hP : va_P D vwCl [(b, .inr (1, [.null, .null, .null, .null, .int 0, .int 0, .int 0, .int 0, .int 0, .int 0, .int 0]))] H := hP
  have hD : va_D A [(b, .inr (1, [.null, .null, .null, .null, .int 0, .int 0, .int 0, .int 0, .int 0, .int 0, .int 0]))] := hD
  refine W.widen (k := 3) (n := 10) (Nat.le_of_ble_eq_true rfl) (Nat.le_of_ble_eq_true rfl) ?_
  refine va_putF (D := D) (ci := 1) (v := .ref q_1) (ty := .object "Chainwork$Instance") (C := RX1) (T := TX1) (N := 11) hx hb ht zinX1 tyX1 tyX1_ok nmX1 hown hK hP hD hS 0 rfl rfl 0 (by decide) (ht _ zw_254) (fun _ h9 => h9) rfl hin rfl (by decide +kernel) rfl rfl (Nat.le_of_ble_eq_true rfl) dX1_init_12 (fun H locs hP hD hS => ?_)
  have hP : va_P D vwCl [(b, .inr (1, [.ref q_1, .null, .null, .null, .int 0, .int 0, .int 0, .int 0, .int 0, .int 0, .int 0]))] H := hP
  have hD : va_D A [(b, .inr (1, [.ref q_1, .null, .null, .null, .int 0, .int 0, .int 0, .int 0, .int 0, .int 0, .int 0]))] := hD
  refine lv_aload_n hx hb dX1_init_15 rfl (lv_at hl 0 rfl) ?_
  refine va_new (ci := 3) (fs := [.null, .null]) (C := RX3) (T := TX3) (N := 2) hx hb ht zinX3 tyX3 tyX3_ok hown (ht _ zw_238) (ht _ zw_239) (ht _ zw_240) hK hP hD hS hA rfl (fun j hj => by rcases (show j = 0 ∨ j = 1 by omega) with rfl | rfl <;> rfl) (Nat.le_of_ble_eq_true rfl) (Nat.le_of_ble_eq_true rfl) dX1_init_16 (fun q_3 H hP hD hS => ?_)
  have hP : va_P D vwCl [(b, .inr (1, [.ref q_1, .null, .null, .null, .int 0, .int 0, .int 0, .int 0, .int 0, .int 0, .int 0])), (q_3, .inr (3, [.null, .null]))] H := hP
  have hD : va_D A [(b, .inr (1, [.ref q_1, .null, .null, .null, .int 0, .int 0, .int 0, .int 0, .int 0, .int 0, .int 0])), (q_3, .inr (3, [.null, .null]))] := hD
  refine W.widen (k := 4) (n := 12) (Nat.le_of_ble_eq_true rfl) (Nat.le_of_ble_eq_true rfl) ?_
  refine lv_dup hx hb dX1_init_19 rfl ?_
  have hPc := hP.sub (ws' := [(q_3, .inr (3, [.null, .null]))]) [1] rfl
  have hDc := hD.sub (ws' := [(q_3, .inr (3, [.null, .null]))]) [1] (by decide) rfl
  have hKc := hK.sub (tys' := []) [] rfl
  have hFc := va_free (wc := [(q_3, .inr (3, [.null, .null]))]) hD hS hA [1] rfl
  refine va_callv (va_runIN (As := []) (rest := [.ref q_3, .ref b]) ⟨hx, hb, hml, hown, ht⟩ (k_X3_init l _ D q_3) ⟨va_cnB 0 ht (zG zw_241) rfl rfl rfl (hX.1 _ (List.mem_of_getElem? (i := 3) rfl)) (ht _ zw_240) (by decide +kernel) ⟨Nat.le_of_ble_eq_true rfl, Nat.le_of_ble_eq_true rfl⟩, rfl, ht _ zw_242⟩ (zXw_I (fun _ _ => zTab.warm) hX hPc hKc hDc) rfl rfl hl.1 rfl (lv_room (Nat.le_of_ble_eq_true rfl)) dX1_init_20 ⟨Nat.le_of_ble_eq_true rfl, Nat.le_of_ble_eq_true rfl⟩) hS (fun q _ h => hFc q h) hFc (fun u_4 t H1 locs ht0 hvm hw_4 hB hz1 hk1 hS => ?_)
  obtain ⟨hP1, hK1, hD1⟩ := hB
  rw [ht0] at hP1
  have hK1 := va_K.moved hvm.symm hK1
  obtain ⟨hP, hD⟩ := va_join (wr := [(b, .inr (1, [.ref q_1, .null, .null, .null, .int 0, .int 0, .int 0, .int 0, .int 0, .int 0, .int 0]))]) (w1 := []) hP hD [1] [0] rfl rfl (by decide) (by decide) hk1 hFc hP1 hD1
  generalize H1 = H at hP hS ⊢
  have hP : va_P D vwCl [(b, .inr (1, [.ref q_1, .null, .null, .null, .int 0, .int 0, .int 0, .int 0, .int 0, .int 0, .int 0]))] H := hP
  have hD : va_D A [(b, .inr (1, [.ref q_1, .null, .null, .null, .int 0, .int 0, .int 0, .int 0, .int 0, .int 0, .int 0]))] := hD
  refine W.widen (k := 6) (n := 20) (Nat.le_of_ble_eq_true rfl) (Nat.le_of_ble_eq_true rfl) ?_
  refine va_putF (D := D) (ci := 1) (v := .ref q_3) (ty := .object "Chainwork$Instance") (C := RX1) (T := TX1) (N := 11) hx hb ht zinX1 tyX1 tyX1_ok nmX1 hown hK hP hD hS 0 rfl rfl 1 (by decide) (ht _ zw_255) (fun _ h9 => h9) rfl hin rfl (by decide +kernel) rfl rfl (Nat.le_of_ble_eq_true rfl) dX1_init_23 (fun H locs hP hD hS => ?_)
  have hP : va_P D vwCl [(b, .inr (1, [.ref q_1, .ref q_3, .null, .null, .int 0, .int 0, .int 0, .int 0, .int 0, .int 0, .int 0]))] H := hP
  have hD : va_D A [(b, .inr (1, [.ref q_1, .ref q_3, .null, .null, .int 0, .int 0, .int 0, .int 0, .int 0, .int 0, .int 0]))] := hD
  refine lv_aload_n hx hb dX1_init_26 rfl (lv_at hl 0 rfl) ?_
  refine va_new (ci := 9) (fs := [.null, .null, .null, .int 0, .int 0, .int 0]) (C := RX9) (T := TX9) (N := 6) hx hb ht zinX9 tyX9 tyX9_ok hown (ht _ zw_256) (ht _ zw_257) (ht _ zw_258) hK hP hD hS hA rfl (fun j hj => by rcases (show j = 0 ∨ j = 1 ∨ j = 2 ∨ j = 3 ∨ j = 4 ∨ j = 5 by omega) with rfl | rfl | rfl | rfl | rfl | rfl <;> rfl) (Nat.le_of_ble_eq_true rfl) (Nat.le_of_ble_eq_true rfl) dX1_init_27 (fun q_5 H hP hD hS => ?_)
  have hP : va_P D vwCl [(b, .inr (1, [.ref q_1, .ref q_3, .null, .null, .int 0, .int 0, .int 0, .int 0, .int 0, .int 0, .int 0])), (q_5, .inr (9, [.null, .null, .null, .int 0, .int 0, .int 0]))] H := hP
  have hD : va_D A [(b, .inr (1, [.ref q_1, .ref q_3, .null, .null, .int 0, .int 0, .int 0, .int 0, .int 0, .int 0, .int 0])), (q_5, .inr (9, [.null, .null, .null, .int 0, .int 0, .int 0]))] := hD
  refine W.widen (k := 7) (n := 26) (Nat.le_of_ble_eq_true rfl) (Nat.le_of_ble_eq_true rfl) ?_
  refine lv_dup hx hb dX1_init_30 rfl ?_
  refine lv_sipush (v := 1600) hx hb dX1_init_31 (by decide) ?_
  have hPc := hP.sub (ws' := [(q_5, .inr (9, [.null, .null, .null, .int 0, .int 0, .int 0]))]) [1] rfl
  have hDc := hD.sub (ws' := [(q_5, .inr (9, [.null, .null, .null, .int 0, .int 0, .int 0]))]) [1] (by decide) rfl
  have hKc := hK.sub (tys' := []) [] rfl
  have hFc := va_free (wc := [(q_5, .inr (9, [.null, .null, .null, .int 0, .int 0, .int 0]))]) hD hS hA [1] rfl
  refine va_callv (va_runI (As := [.int 1600]) (rest := [.ref q_5, .ref b]) ⟨hx, hb, hml, hown, ht⟩ (k_X9_init_1600 l _ D q_5) (cwI 1 ht (zG zw_259) rfl rfl rfl (ht _ zw_258) (ht _ zw_260) (ht _ zw_261) rfl (by decide +kernel) ⟨Nat.le_of_ble_eq_true rfl, Nat.le_of_ble_eq_true rfl⟩) (zXw_I (fun _ _ => zTab.warm) hX hPc hKc hDc) rfl rfl hl.1 rfl (lv_room (Nat.le_of_ble_eq_true rfl)) dX1_init_34 ⟨Nat.le_of_ble_eq_true rfl, Nat.le_of_ble_eq_true rfl⟩) hS (fun q _ h => hFc q h) hFc (fun u_6 t H1 locs ht0 hvm hw_6 hB hz1 hk1 hS => ?_)
  obtain ⟨q1_6, q2_6, q3_6, cI_6, hB⟩ := hB
  obtain ⟨hP1, hK1, hD1⟩ := hB
  rw [ht0] at hP1
  have hK1 := va_K.moved hvm.symm hK1
  obtain ⟨hP, hD⟩ := va_join (wr := [(b, .inr (1, [.ref q_1, .ref q_3, .null, .null, .int 0, .int 0, .int 0, .int 0, .int 0, .int 0, .int 0]))]) (w1 := [(q_5, .inr (9, [.ref q1_6, .ref q2_6, .ref q3_6, .int 0, .int 0, .int 0])), (q1_6, .inl (cI_6, 1600, .inl (fun _ => 0))), (q2_6, .inl (cI_6, 1600, .inl (fun _ => 0))), (q3_6, .inl (cI_6, 1600, .inl (fun _ => 0)))]) hP hD [1] [0] rfl rfl (by decide) (by decide) hk1 hFc hP1 hD1
  have hK := hK.app hK1
  generalize H1 = H at hP hS ⊢
  have hP : va_P D vwCl [(b, .inr (1, [.ref q_1, .ref q_3, .null, .null, .int 0, .int 0, .int 0, .int 0, .int 0, .int 0, .int 0])), (q_5, .inr (9, [.ref q1_6, .ref q2_6, .ref q3_6, .int 0, .int 0, .int 0])), (q1_6, .inl (cI_6, 1600, .inl (fun _ => 0))), (q2_6, .inl (cI_6, 1600, .inl (fun _ => 0))), (q3_6, .inl (cI_6, 1600, .inl (fun _ => 0)))] H := hP
  have hD : va_D A [(b, .inr (1, [.ref q_1, .ref q_3, .null, .null, .int 0, .int 0, .int 0, .int 0, .int 0, .int 0, .int 0])), (q_5, .inr (9, [.ref q1_6, .ref q2_6, .ref q3_6, .int 0, .int 0, .int 0])), (q1_6, .inl (cI_6, 1600, .inl (fun _ => 0))), (q2_6, .inl (cI_6, 1600, .inl (fun _ => 0))), (q3_6, .inl (cI_6, 1600, .inl (fun _ => 0)))] := hD
  have hK : va_K D vwCl [(cI_6, .int)] s := hK
  have hK := hK.sub (tys' := [(cI_6, .int)]) [0] rfl
  refine W.widen (k := 10) (n := 4826) (Nat.le_of_ble_eq_true rfl) (Nat.le_of_ble_eq_true rfl) ?_
  have hP := hP.sub (ws' := [(b, .inr (1, [.ref q_1, .ref q_3, .null, .null, .int 0, .int 0, .int 0, .int 0, .int 0, .int 0, .int 0])), (q_5, .inr (9, [.ref q1_6, .ref q2_6, .ref q3_6, .int 0, .int 0, .int 0]))]) [0, 1] rfl
  have hD := hD.sub (ws' := [(b, .inr (1, [.ref q_1, .ref q_3, .null, .null, .int 0, .int 0, .int 0, .int 0, .int 0, .int 0, .int 0])), (q_5, .inr (9, [.ref q1_6, .ref q2_6, .ref q3_6, .int 0, .int 0, .int 0]))]) [0, 1] (by decide) rfl
  have hP : va_P D vwCl [(b, .inr (1, [.ref q_1, .ref q_3, .null, .null, .int 0, .int 0, .int 0, .int 0, .int 0, .int 0, .int 0])), (q_5, .inr (9, [.ref q1_6, .ref q2_6, .ref q3_6, .int 0, .int 0, .int 0]))] H := hP
  have hD : va_D A [(b, .inr (1, [.ref q_1, .ref q_3, .null, .null, .int 0, .int 0, .int 0, .int 0, .int 0, .int 0, .int 0])), (q_5, .inr (9, [.ref q1_6, .ref q2_6, .ref q3_6, .int 0, .int 0, .int 0]))] := hD
  refine va_putF (D := D) (ci := 1) (v := .ref q_5) (ty := .object "Chainwork$Term") (C := RX1) (T := TX1) (N := 11) hx hb ht zinX1 tyX1 tyX1_ok nmX1 hown hK hP hD hS 0 rfl rfl 2 (by decide) (ht _ zw_262) (fun _ h9 => h9) rfl hin rfl (by decide +kernel) rfl rfl (Nat.le_of_ble_eq_true rfl) dX1_init_37 (fun H locs hP hD hS => ?_)
  have hP : va_P D vwCl [(b, .inr (1, [.ref q_1, .ref q_3, .ref q_5, .null, .int 0, .int 0, .int 0, .int 0, .int 0, .int 0, .int 0])), (q_5, .inr (9, [.ref q1_6, .ref q2_6, .ref q3_6, .int 0, .int 0, .int 0]))] H := hP
  have hD : va_D A [(b, .inr (1, [.ref q_1, .ref q_3, .ref q_5, .null, .int 0, .int 0, .int 0, .int 0, .int 0, .int 0, .int 0])), (q_5, .inr (9, [.ref q1_6, .ref q2_6, .ref q3_6, .int 0, .int 0, .int 0]))] := hD
  refine lv_aload_n hx hb dX1_init_40 rfl (lv_at hl 0 rfl) ?_
  refine va_new (ci := 9) (fs := [.null, .null, .null, .int 0, .int 0, .int 0]) (C := RX9) (T := TX9) (N := 6) hx hb ht zinX9 tyX9 tyX9_ok hown (ht _ zw_256) (ht _ zw_257) (ht _ zw_258) hK hP hD hS hA rfl (fun j hj => by rcases (show j = 0 ∨ j = 1 ∨ j = 2 ∨ j = 3 ∨ j = 4 ∨ j = 5 by omega) with rfl | rfl | rfl | rfl | rfl | rfl <;> rfl) (Nat.le_of_ble_eq_true rfl) (Nat.le_of_ble_eq_true rfl) dX1_init_41 (fun q_7 H hP hD hS => ?_)
  have hP : va_P D vwCl [(b, .inr (1, [.ref q_1, .ref q_3, .ref q_5, .null, .int 0, .int 0, .int 0, .int 0, .int 0, .int 0, .int 0])), (q_5, .inr (9, [.ref q1_6, .ref q2_6, .ref q3_6, .int 0, .int 0, .int 0])), (q_7, .inr (9, [.null, .null, .null, .int 0, .int 0, .int 0]))] H := hP
  have hD : va_D A [(b, .inr (1, [.ref q_1, .ref q_3, .ref q_5, .null, .int 0, .int 0, .int 0, .int 0, .int 0, .int 0, .int 0])), (q_5, .inr (9, [.ref q1_6, .ref q2_6, .ref q3_6, .int 0, .int 0, .int 0])), (q_7, .inr (9, [.null, .null, .null, .int 0, .int 0, .int 0]))] := hD
  refine W.widen (k := 11) (n := 4832) (Nat.le_of_ble_eq_true rfl) (Nat.le_of_ble_eq_true rfl) ?_
  refine lv_dup hx hb dX1_init_44 rfl ?_
  refine lv_sipush (v := 1600) hx hb dX1_init_45 (by decide) ?_
  have hPc := hP.sub (ws' := [(q_7, .inr (9, [.null, .null, .null, .int 0, .int 0, .int 0]))]) [2] rfl
  have hDc := hD.sub (ws' := [(q_7, .inr (9, [.null, .null, .null, .int 0, .int 0, .int 0]))]) [2] (by decide) rfl
  have hKc := hK.sub (tys' := []) [] rfl
  have hFc := va_free (wc := [(q_7, .inr (9, [.null, .null, .null, .int 0, .int 0, .int 0]))]) hD hS hA [2] rfl
  refine va_callv (va_runI (As := [.int 1600]) (rest := [.ref q_7, .ref b]) ⟨hx, hb, hml, hown, ht⟩ (k_X9_init_1600 l _ D q_7) (cwI 1 ht (zG zw_259) rfl rfl rfl (ht _ zw_258) (ht _ zw_260) (ht _ zw_261) rfl (by decide +kernel) ⟨Nat.le_of_ble_eq_true rfl, Nat.le_of_ble_eq_true rfl⟩) (zXw_I (fun _ _ => zTab.warm) hX hPc hKc hDc) rfl rfl hl.1 rfl (lv_room (Nat.le_of_ble_eq_true rfl)) dX1_init_48 ⟨Nat.le_of_ble_eq_true rfl, Nat.le_of_ble_eq_true rfl⟩) hS (fun q _ h => hFc q h) hFc (fun u_8 t H1 locs ht0 hvm hw_8 hB hz1 hk1 hS => ?_)
  obtain ⟨q1_8, q2_8, q3_8, cI_8, hB⟩ := hB
  obtain ⟨hP1, hK1, hD1⟩ := hB
  rw [ht0] at hP1
  have hK1 := va_K.moved hvm.symm hK1
  obtain ⟨hP, hD⟩ := va_join (wr := [(b, .inr (1, [.ref q_1, .ref q_3, .ref q_5, .null, .int 0, .int 0, .int 0, .int 0, .int 0, .int 0, .int 0])), (q_5, .inr (9, [.ref q1_6, .ref q2_6, .ref q3_6, .int 0, .int 0, .int 0]))]) (w1 := [(q_7, .inr (9, [.ref q1_8, .ref q2_8, .ref q3_8, .int 0, .int 0, .int 0])), (q1_8, .inl (cI_8, 1600, .inl (fun _ => 0))), (q2_8, .inl (cI_8, 1600, .inl (fun _ => 0))), (q3_8, .inl (cI_8, 1600, .inl (fun _ => 0)))]) hP hD [2] [0, 1] rfl rfl (by decide) (by decide) hk1 hFc hP1 hD1
  have hK := hK.app hK1
  generalize H1 = H at hP hS ⊢
  have hP : va_P D vwCl [(b, .inr (1, [.ref q_1, .ref q_3, .ref q_5, .null, .int 0, .int 0, .int 0, .int 0, .int 0, .int 0, .int 0])), (q_5, .inr (9, [.ref q1_6, .ref q2_6, .ref q3_6, .int 0, .int 0, .int 0])), (q_7, .inr (9, [.ref q1_8, .ref q2_8, .ref q3_8, .int 0, .int 0, .int 0])), (q1_8, .inl (cI_8, 1600, .inl (fun _ => 0))), (q2_8, .inl (cI_8, 1600, .inl (fun _ => 0))), (q3_8, .inl (cI_8, 1600, .inl (fun _ => 0)))] H := hP
  have hD : va_D A [(b, .inr (1, [.ref q_1, .ref q_3, .ref q_5, .null, .int 0, .int 0, .int 0, .int 0, .int 0, .int 0, .int 0])), (q_5, .inr (9, [.ref q1_6, .ref q2_6, .ref q3_6, .int 0, .int 0, .int 0])), (q_7, .inr (9, [.ref q1_8, .ref q2_8, .ref q3_8, .int 0, .int 0, .int 0])), (q1_8, .inl (cI_8, 1600, .inl (fun _ => 0))), (q2_8, .inl (cI_8, 1600, .inl (fun _ => 0))), (q3_8, .inl (cI_8, 1600, .inl (fun _ => 0)))] := hD
  have hK : va_K D vwCl [(cI_6, .int), (cI_8, .int)] s := hK
  have hcc : cI_6 = cI_8 := za_same hK 0 1 rfl rfl
  subst hcc
  have hK := hK.sub (tys' := [(cI_6, .int)]) [0] rfl
  refine W.widen (k := 14) (n := 9632) (Nat.le_of_ble_eq_true rfl) (Nat.le_of_ble_eq_true rfl) ?_
  have hP := hP.sub (ws' := [(b, .inr (1, [.ref q_1, .ref q_3, .ref q_5, .null, .int 0, .int 0, .int 0, .int 0, .int 0, .int 0, .int 0])), (q_5, .inr (9, [.ref q1_6, .ref q2_6, .ref q3_6, .int 0, .int 0, .int 0])), (q_7, .inr (9, [.ref q1_8, .ref q2_8, .ref q3_8, .int 0, .int 0, .int 0]))]) [0, 1, 2] rfl
  have hD := hD.sub (ws' := [(b, .inr (1, [.ref q_1, .ref q_3, .ref q_5, .null, .int 0, .int 0, .int 0, .int 0, .int 0, .int 0, .int 0])), (q_5, .inr (9, [.ref q1_6, .ref q2_6, .ref q3_6, .int 0, .int 0, .int 0])), (q_7, .inr (9, [.ref q1_8, .ref q2_8, .ref q3_8, .int 0, .int 0, .int 0]))]) [0, 1, 2] (by decide) rfl
  have hP : va_P D vwCl [(b, .inr (1, [.ref q_1, .ref q_3, .ref q_5, .null, .int 0, .int 0, .int 0, .int 0, .int 0, .int 0, .int 0])), (q_5, .inr (9, [.ref q1_6, .ref q2_6, .ref q3_6, .int 0, .int 0, .int 0])), (q_7, .inr (9, [.ref q1_8, .ref q2_8, .ref q3_8, .int 0, .int 0, .int 0]))] H := hP
  have hD : va_D A [(b, .inr (1, [.ref q_1, .ref q_3, .ref q_5, .null, .int 0, .int 0, .int 0, .int 0, .int 0, .int 0, .int 0])), (q_5, .inr (9, [.ref q1_6, .ref q2_6, .ref q3_6, .int 0, .int 0, .int 0])), (q_7, .inr (9, [.ref q1_8, .ref q2_8, .ref q3_8, .int 0, .int 0, .int 0]))] := hD
  refine va_putF (D := D) (ci := 1) (v := .ref q_7) (ty := .object "Chainwork$Term") (C := RX1) (T := TX1) (N := 11) hx hb ht zinX1 tyX1 tyX1_ok nmX1 hown hK hP hD hS 0 rfl rfl 3 (by decide) (ht _ zw_263) (fun _ h9 => h9) rfl hin rfl (by decide +kernel) rfl rfl (Nat.le_of_ble_eq_true rfl) dX1_init_51 (fun H locs hP hD hS => ?_)
  have hP : va_P D vwCl [(b, .inr (1, [.ref q_1, .ref q_3, .ref q_5, .ref q_7, .int 0, .int 0, .int 0, .int 0, .int 0, .int 0, .int 0])), (q_5, .inr (9, [.ref q1_6, .ref q2_6, .ref q3_6, .int 0, .int 0, .int 0])), (q_7, .inr (9, [.ref q1_8, .ref q2_8, .ref q3_8, .int 0, .int 0, .int 0]))] H := hP
  have hD : va_D A [(b, .inr (1, [.ref q_1, .ref q_3, .ref q_5, .ref q_7, .int 0, .int 0, .int 0, .int 0, .int 0, .int 0, .int 0])), (q_5, .inr (9, [.ref q1_6, .ref q2_6, .ref q3_6, .int 0, .int 0, .int 0])), (q_7, .inr (9, [.ref q1_8, .ref q2_8, .ref q3_8, .int 0, .int 0, .int 0]))] := hD
  refine lv_aload_n hx hb dX1_init_54 rfl (lv_at hl 0 rfl) ?_
  refine lv_iconst (v := 0) hx hb dX1_init_55 (by decide) ?_
  refine va_put (D := D) (ci := 1) (v := .int 0) (ty := .boolean) (C := RX1) (T := TX1) (N := 11) hx hb ht zinX1 tyX1 tyX1_ok nmX1 hown hK hP hD hS 0 rfl rfl 4 (by decide) (ht _ zw_264) (fun _ h9 => h9) rfl (by decide +kernel) rfl rfl (Nat.le_of_ble_eq_true rfl) dX1_init_56 (fun H locs hP hD hS => ?_)
  have hP : va_P D vwCl [(b, .inr (1, [.ref q_1, .ref q_3, .ref q_5, .ref q_7, .int 0, .int 0, .int 0, .int 0, .int 0, .int 0, .int 0])), (q_5, .inr (9, [.ref q1_6, .ref q2_6, .ref q3_6, .int 0, .int 0, .int 0])), (q_7, .inr (9, [.ref q1_8, .ref q2_8, .ref q3_8, .int 0, .int 0, .int 0]))] H := hP
  have hD : va_D A [(b, .inr (1, [.ref q_1, .ref q_3, .ref q_5, .ref q_7, .int 0, .int 0, .int 0, .int 0, .int 0, .int 0, .int 0])), (q_5, .inr (9, [.ref q1_6, .ref q2_6, .ref q3_6, .int 0, .int 0, .int 0])), (q_7, .inr (9, [.ref q1_8, .ref q2_8, .ref q3_8, .int 0, .int 0, .int 0]))] := hD
  refine lv_aload_n hx hb dX1_init_59 rfl (lv_at hl 0 rfl) ?_
  refine lv_iconst (v := 0) hx hb dX1_init_60 (by decide) ?_
  refine va_put (D := D) (ci := 1) (v := .int 0) (ty := .int) (C := RX1) (T := TX1) (N := 11) hx hb ht zinX1 tyX1 tyX1_ok nmX1 hown hK hP hD hS 0 rfl rfl 5 (by decide) (ht _ zw_265) (fun _ h9 => h9) rfl (by decide +kernel) rfl rfl (Nat.le_of_ble_eq_true rfl) dX1_init_61 (fun H locs hP hD hS => ?_)
  have hP : va_P D vwCl [(b, .inr (1, [.ref q_1, .ref q_3, .ref q_5, .ref q_7, .int 0, .int 0, .int 0, .int 0, .int 0, .int 0, .int 0])), (q_5, .inr (9, [.ref q1_6, .ref q2_6, .ref q3_6, .int 0, .int 0, .int 0])), (q_7, .inr (9, [.ref q1_8, .ref q2_8, .ref q3_8, .int 0, .int 0, .int 0]))] H := hP
  have hD : va_D A [(b, .inr (1, [.ref q_1, .ref q_3, .ref q_5, .ref q_7, .int 0, .int 0, .int 0, .int 0, .int 0, .int 0, .int 0])), (q_5, .inr (9, [.ref q1_6, .ref q2_6, .ref q3_6, .int 0, .int 0, .int 0])), (q_7, .inr (9, [.ref q1_8, .ref q2_8, .ref q3_8, .int 0, .int 0, .int 0]))] := hD
  refine lv_aload_n hx hb dX1_init_64 rfl (lv_at hl 0 rfl) ?_
  refine lv_iconst (v := (-1)) hx hb dX1_init_65 (by decide) ?_
  refine va_put (D := D) (ci := 1) (v := .int (-1)) (ty := .int) (C := RX1) (T := TX1) (N := 11) hx hb ht zinX1 tyX1 tyX1_ok nmX1 hown hK hP hD hS 0 rfl rfl 6 (by decide) (ht _ zw_266) (fun _ h9 => h9) rfl (by decide +kernel) rfl rfl (Nat.le_of_ble_eq_true rfl) dX1_init_66 (fun H locs hP hD hS => ?_)
  have hP : va_P D vwCl [(b, .inr (1, [.ref q_1, .ref q_3, .ref q_5, .ref q_7, .int 0, .int 0, .int (-1), .int 0, .int 0, .int 0, .int 0])), (q_5, .inr (9, [.ref q1_6, .ref q2_6, .ref q3_6, .int 0, .int 0, .int 0])), (q_7, .inr (9, [.ref q1_8, .ref q2_8, .ref q3_8, .int 0, .int 0, .int 0]))] H := hP
  have hD : va_D A [(b, .inr (1, [.ref q_1, .ref q_3, .ref q_5, .ref q_7, .int 0, .int 0, .int (-1), .int 0, .int 0, .int 0, .int 0])), (q_5, .inr (9, [.ref q1_6, .ref q2_6, .ref q3_6, .int 0, .int 0, .int 0])), (q_7, .inr (9, [.ref q1_8, .ref q2_8, .ref q3_8, .int 0, .int 0, .int 0]))] := hD
  refine lv_aload_n hx hb dX1_init_69 rfl (lv_at hl 0 rfl) ?_
  refine lv_iconst (v := 0) hx hb dX1_init_70 (by decide) ?_
  refine va_put (D := D) (ci := 1) (v := .int 0) (ty := .int) (C := RX1) (T := TX1) (N := 11) hx hb ht zinX1 tyX1 tyX1_ok nmX1 hown hK hP hD hS 0 rfl rfl 7 (by decide) (ht _ zw_267) (fun _ h9 => h9) rfl (by decide +kernel) rfl rfl (Nat.le_of_ble_eq_true rfl) dX1_init_71 (fun H locs hP hD hS => ?_)
  have hP : va_P D vwCl [(b, .inr (1, [.ref q_1, .ref q_3, .ref q_5, .ref q_7, .int 0, .int 0, .int (-1), .int 0, .int 0, .int 0, .int 0])), (q_5, .inr (9, [.ref q1_6, .ref q2_6, .ref q3_6, .int 0, .int 0, .int 0])), (q_7, .inr (9, [.ref q1_8, .ref q2_8, .ref q3_8, .int 0, .int 0, .int 0]))] H := hP
  have hD : va_D A [(b, .inr (1, [.ref q_1, .ref q_3, .ref q_5, .ref q_7, .int 0, .int 0, .int (-1), .int 0, .int 0, .int 0, .int 0])), (q_5, .inr (9, [.ref q1_6, .ref q2_6, .ref q3_6, .int 0, .int 0, .int 0])), (q_7, .inr (9, [.ref q1_8, .ref q2_8, .ref q3_8, .int 0, .int 0, .int 0]))] := hD
  refine lv_aload_n hx hb dX1_init_74 rfl (lv_at hl 0 rfl) ?_
  refine lv_iconst (v := (-1)) hx hb dX1_init_75 (by decide) ?_
  refine va_put (D := D) (ci := 1) (v := .int (-1)) (ty := .int) (C := RX1) (T := TX1) (N := 11) hx hb ht zinX1 tyX1 tyX1_ok nmX1 hown hK hP hD hS 0 rfl rfl 8 (by decide) (ht _ zw_268) (fun _ h9 => h9) rfl (by decide +kernel) rfl rfl (Nat.le_of_ble_eq_true rfl) dX1_init_76 (fun H locs hP hD hS => ?_)
  have hP : va_P D vwCl [(b, .inr (1, [.ref q_1, .ref q_3, .ref q_5, .ref q_7, .int 0, .int 0, .int (-1), .int 0, .int (-1), .int 0, .int 0])), (q_5, .inr (9, [.ref q1_6, .ref q2_6, .ref q3_6, .int 0, .int 0, .int 0])), (q_7, .inr (9, [.ref q1_8, .ref q2_8, .ref q3_8, .int 0, .int 0, .int 0]))] H := hP
  have hD : va_D A [(b, .inr (1, [.ref q_1, .ref q_3, .ref q_5, .ref q_7, .int 0, .int 0, .int (-1), .int 0, .int (-1), .int 0, .int 0])), (q_5, .inr (9, [.ref q1_6, .ref q2_6, .ref q3_6, .int 0, .int 0, .int 0])), (q_7, .inr (9, [.ref q1_8, .ref q2_8, .ref q3_8, .int 0, .int 0, .int 0]))] := hD
  refine lv_aload_n hx hb dX1_init_79 rfl (lv_at hl 0 rfl) ?_
  refine lv_iconst (v := (-1)) hx hb dX1_init_80 (by decide) ?_
  refine va_put (D := D) (ci := 1) (v := .int (-1)) (ty := .int) (C := RX1) (T := TX1) (N := 11) hx hb ht zinX1 tyX1 tyX1_ok nmX1 hown hK hP hD hS 0 rfl rfl 9 (by decide) (ht _ zw_269) (fun _ h9 => h9) rfl (by decide +kernel) rfl rfl (Nat.le_of_ble_eq_true rfl) dX1_init_81 (fun H locs hP hD hS => ?_)
  have hP : va_P D vwCl [(b, .inr (1, [.ref q_1, .ref q_3, .ref q_5, .ref q_7, .int 0, .int 0, .int (-1), .int 0, .int (-1), .int (-1), .int 0])), (q_5, .inr (9, [.ref q1_6, .ref q2_6, .ref q3_6, .int 0, .int 0, .int 0])), (q_7, .inr (9, [.ref q1_8, .ref q2_8, .ref q3_8, .int 0, .int 0, .int 0]))] H := hP
  have hD : va_D A [(b, .inr (1, [.ref q_1, .ref q_3, .ref q_5, .ref q_7, .int 0, .int 0, .int (-1), .int 0, .int (-1), .int (-1), .int 0])), (q_5, .inr (9, [.ref q1_6, .ref q2_6, .ref q3_6, .int 0, .int 0, .int 0])), (q_7, .inr (9, [.ref q1_8, .ref q2_8, .ref q3_8, .int 0, .int 0, .int 0]))] := hD
  refine lv_aload_n hx hb dX1_init_84 rfl (lv_at hl 0 rfl) ?_
  refine lv_iconst (v := 0) hx hb dX1_init_85 (by decide) ?_
  refine va_put (D := D) (ci := 1) (v := .int 0) (ty := .int) (C := RX1) (T := TX1) (N := 11) hx hb ht zinX1 tyX1 tyX1_ok nmX1 hown hK hP hD hS 0 rfl rfl 10 (by decide) (ht _ zw_270) (fun _ h9 => h9) rfl (by decide +kernel) rfl rfl (Nat.le_of_ble_eq_true rfl) dX1_init_86 (fun H locs hP hD hS => ?_)
  have hP : va_P D vwCl [(b, .inr (1, [.ref q_1, .ref q_3, .ref q_5, .ref q_7, .int 0, .int 0, .int (-1), .int 0, .int (-1), .int (-1), .int 0])), (q_5, .inr (9, [.ref q1_6, .ref q2_6, .ref q3_6, .int 0, .int 0, .int 0])), (q_7, .inr (9, [.ref q1_8, .ref q2_8, .ref q3_8, .int 0, .int 0, .int 0]))] H := hP
  have hD : va_D A [(b, .inr (1, [.ref q_1, .ref q_3, .ref q_5, .ref q_7, .int 0, .int 0, .int (-1), .int 0, .int (-1), .int (-1), .int 0])), (q_5, .inr (9, [.ref q1_6, .ref q2_6, .ref q3_6, .int 0, .int 0, .int 0])), (q_7, .inr (9, [.ref q1_8, .ref q2_8, .ref q3_8, .int 0, .int 0, .int 0]))] := hD
  have hP9 := hP.sub (ws' := [(b, .inr (1, [.ref q_1, .ref q_3, .ref q_5, .ref q_7, .int 0, .int 0, .int (-1), .int 0, .int (-1), .int (-1), .int 0]))]) [0] rfl
  have hD9 := hD.sub (ws' := [(b, .inr (1, [.ref q_1, .ref q_3, .ref q_5, .ref q_7, .int 0, .int 0, .int (-1), .int 0, .int (-1), .int (-1), .int 0]))]) [0] (by decide) rfl
  have hK9 := hK.sub (tys' := []) [] rfl
  refine W.widen (k := 14) (n := 9632) (Nat.le_of_ble_eq_true rfl) (Nat.le_of_ble_eq_true rfl) ?_
  exact W.vret hx hb hr (fun t ht0 hW => ⟨⟨(), rfl, trivial, q_1, q_3, q_5, q_7, zE_of hP9 hK9 hD9 ht0 hW⟩, hS.F ht0⟩) hS.2.2 dX1_init_89
set_option maxHeartbeats 4000000 in
set_option maxRecDepth 100000 in
theorem k_X6_init (l : Launch) (sz : Nat) (D : va_G) (b : Nat) : Met l yX6_init (.code yX6_init cX6_init 1 none :: zT) ({ frames := 2, cells := 13, slots := 45224, locals := 33 }) (va_Pc [.ref b] (zX zTab D [(b, .inr (6, [.null, .null, .null, .null, .null, .null, .null, .int 0, .null, .int 0, .int 0, .null, .null, .int 0, .int 0, .int 0, .int 0]))] [] sz)) (va_Qv (fun (_ : Unit) => True) (fun _ t => zE D [] [] (va_A [(b, .inr (6, [.null, .null, .null, .null, .null, .null, .null, .int 0, .null, .int 0, .int 0, .null, .null, .int 0, .int 0, .int 0, .int 0]))] sz) t) (va_A [(b, .inr (6, [.null, .null, .null, .null, .null, .null, .null, .int 0, .null, .int 0, .int 0, .null, .null, .int 0, .int 0, .int 0, .int 0]))] sz)) 13 45224 (va_A [(b, .inr (6, [.null, .null, .null, .null, .null, .null, .null, .int 0, .null, .int 0, .int 0, .null, .null, .int 0, .int 0, .int 0, .int 0]))] sz) := by
  refine Met.ofW (cc := cX6_init) (maxL := 1) (ret := none) (by decide) rfl ?_
  intro p e s m args below meth c s₁ B hml hv
  obtain ⟨rfl, hX, hsz, hP, hK, hD0⟩ := hv
  have hx := B.exec
  have hb := B.bytes
  have hr := B.returns
  have hts := atoms_spec (ws := (.code yX6_init cX6_init 1 none :: zT)) B.pre
  have ht : ∀ w ∈ zT, w.before _ s = true := fun w h => hts w (List.mem_cons_of_mem _ h)
  have hown : s.vm.findClass RX6 = some m.cls := findClass_of_methodNamed B.named
  have hlocks := B.notSynchronized
  have hin : meth.name = "<init>" := (name_of_methodNamed B.named B.method).1
  subst hsz
  have hD := hD0.self (sz := s.heap.size)
  generalize hAe : va_A [(b, .inr (6, [.null, .null, .null, .null, .null, .null, .null, .int 0, .null, .int 0, .int 0, .null, .null, .int 0, .int 0, .int 0, .int 0]))] s.heap.size = A at hD ⊢
  have hA : ∀ q : Nat, s.heap.size ≤ q → A q := fun q h => by rw [← hAe]; exact Or.inr h
  have hS : va_S A s.heap s.heap [] := va_S.rf
  have hP : va_P D vwCl [(b, .inr (6, [.null, .null, .null, .null, .null, .null, .null, .int 0, .null, .int 0, .int 0, .null, .null, .int 0, .int 0, .int 0, .int 0]))] s.heap := hP
  have hl := lv_entry ([.ref b]) (n := 1) (Nat.le_of_ble_eq_true rfl)
  rw [lg_entry_eq]
  generalize (lg_sl ([.ref b]) ++ List.replicate (1 - (lg_sl ([.ref b])).length) Slot.unset).toArray = ls at hl ⊢
  have hl : lv_has ls 1 [(0, .ref b)] := hl
  skip
  refine lv_aload_n hx hb dX6_init_0 rfl (lv_at hl 0 rfl) ?_
  refine W.objInit hx hb hown (ht _ zw_271) (ht _ zw_145) (ht _ zw_146) rfl (by rw [hml]; exact hl.1) rfl dX6_init_1 (Nat.le_of_ble_eq_true rfl) (Nat.le_of_ble_eq_true rfl) ?_
  refine W.eq (g2 := F0 m 4 ls []) rfl ?_
  refine lv_aload_n hx hb dX6_init_4 rfl (lv_at hl 0 rfl) ?_
  refine va_new (ci := 3) (fs := [.null, .null]) (C := RX3) (T := TX3) (N := 2) hx hb ht zinX3 tyX3 tyX3_ok hown (ht _ zw_272) (ht _ zw_239) (ht _ zw_240) hK hP hD hS hA rfl (fun j hj => by rcases (show j = 0 ∨ j = 1 by omega) with rfl | rfl <;> rfl) (Nat.le_of_ble_eq_true rfl) (Nat.le_of_ble_eq_true rfl) dX6_init_5 (fun q_1 H hP hD hS => ?_)
  have hP : va_P D vwCl [(b, .inr (6, [.null, .null, .null, .null, .null, .null, .null, .int 0, .null, .int 0, .int 0, .null, .null, .int 0, .int 0, .int 0, .int 0])), (q_1, .inr (3, [.null, .null]))] H := hP
  have hD : va_D A [(b, .inr (6, [.null, .null, .null, .null, .null, .null, .null, .int 0, .null, .int 0, .int 0, .null, .null, .int 0, .int 0, .int 0, .int 0])), (q_1, .inr (3, [.null, .null]))] := hD
  refine W.widen (k := 1) (n := 2) (Nat.le_of_ble_eq_true rfl) (Nat.le_of_ble_eq_true rfl) ?_
  refine lv_dup hx hb dX6_init_8 rfl ?_
  have hPc := hP.sub (ws' := [(q_1, .inr (3, [.null, .null]))]) [1] rfl
  have hDc := hD.sub (ws' := [(q_1, .inr (3, [.null, .null]))]) [1] (by decide) rfl
  have hKc := hK.sub (tys' := []) [] rfl
  have hFc := va_free (wc := [(q_1, .inr (3, [.null, .null]))]) hD hS hA [1] rfl
  refine va_callv (va_runIN (As := []) (rest := [.ref q_1, .ref b]) ⟨hx, hb, hml, hown, ht⟩ (k_X3_init l _ D q_1) ⟨va_cnB 0 ht (zG zw_241) rfl rfl rfl (hX.1 _ (List.mem_of_getElem? (i := 5) rfl)) (ht _ zw_240) (by decide +kernel) ⟨Nat.le_of_ble_eq_true rfl, Nat.le_of_ble_eq_true rfl⟩, rfl, ht _ zw_242⟩ (zXw_I (fun _ _ => zTab.warm) hX hPc hKc hDc) rfl rfl hl.1 rfl (lv_room (Nat.le_of_ble_eq_true rfl)) dX6_init_9 ⟨Nat.le_of_ble_eq_true rfl, Nat.le_of_ble_eq_true rfl⟩) hS (fun q _ h => hFc q h) hFc (fun u_2 t H1 locs ht0 hvm hw_2 hB hz1 hk1 hS => ?_)
  obtain ⟨hP1, hK1, hD1⟩ := hB
  rw [ht0] at hP1
  have hK1 := va_K.moved hvm.symm hK1
  obtain ⟨hP, hD⟩ := va_join (wr := [(b, .inr (6, [.null, .null, .null, .null, .null, .null, .null, .int 0, .null, .int 0, .int 0, .null, .null, .int 0, .int 0, .int 0, .int 0]))]) (w1 := []) hP hD [1] [0] rfl rfl (by decide) (by decide) hk1 hFc hP1 hD1
  generalize H1 = H at hP hS ⊢
  have hP : va_P D vwCl [(b, .inr (6, [.null, .null, .null, .null, .null, .null, .null, .int 0, .null, .int 0, .int 0, .null, .null, .int 0, .int 0, .int 0, .int 0]))] H := hP
  have hD : va_D A [(b, .inr (6, [.null, .null, .null, .null, .null, .null, .null, .int 0, .null, .int 0, .int 0, .null, .null, .int 0, .int 0, .int 0, .int 0]))] := hD
  refine W.widen (k := 3) (n := 10) (Nat.le_of_ble_eq_true rfl) (Nat.le_of_ble_eq_true rfl) ?_
  refine va_putF (D := D) (ci := 6) (v := .ref q_1) (ty := .object "Chainwork$Instance") (C := RX6) (T := TX6) (N := 17) hx hb ht zinX6 tyX6 tyX6_ok nmX6 hown hK hP hD hS 0 rfl rfl 0 (by decide) (ht _ zw_290) (fun _ h9 => h9) rfl hin rfl (by decide +kernel) rfl rfl (Nat.le_of_ble_eq_true rfl) dX6_init_12 (fun H locs hP hD hS => ?_)
  have hP : va_P D vwCl [(b, .inr (6, [.ref q_1, .null, .null, .null, .null, .null, .null, .int 0, .null, .int 0, .int 0, .null, .null, .int 0, .int 0, .int 0, .int 0]))] H := hP
  have hD : va_D A [(b, .inr (6, [.ref q_1, .null, .null, .null, .null, .null, .null, .int 0, .null, .int 0, .int 0, .null, .null, .int 0, .int 0, .int 0, .int 0]))] := hD
  refine lv_aload_n hx hb dX6_init_15 rfl (lv_at hl 0 rfl) ?_
  refine lv_ldc (v := 40000) hx hb hown (ht _ zw_291) dX6_init_16 ?_
  refine va_newa (atype := .int) (a0 := (40000, .inl (fun _ => 0))) hx hb (ht _ zw_108) rfl hK hP hD hS hA (fun _ => rfl) (by decide) rfl (Nat.le_of_ble_eq_true rfl) (Nat.le_of_ble_eq_true rfl) (Nat.le_of_ble_eq_true rfl) dX6_init_18 (fun q_3 cA_3 H hK hP hD hS => ?_)
  have hP : va_P D vwCl [(b, .inr (6, [.ref q_1, .null, .null, .null, .null, .null, .null, .int 0, .null, .int 0, .int 0, .null, .null, .int 0, .int 0, .int 0, .int 0])), (q_3, .inl (cA_3, 40000, .inl (fun _ => 0)))] H := hP
  have hD : va_D A [(b, .inr (6, [.ref q_1, .null, .null, .null, .null, .null, .null, .int 0, .null, .int 0, .int 0, .null, .null, .int 0, .int 0, .int 0, .int 0])), (q_3, .inl (cA_3, 40000, .inl (fun _ => 0)))] := hD
  have hK : va_K D vwCl [(cA_3, .int)] s := hK
  refine W.widen (k := 4) (n := 40010) (Nat.le_of_ble_eq_true rfl) (Nat.le_of_ble_eq_true rfl) ?_
  refine va_putF (D := D) (ci := 6) (v := .ref q_3) (ty := .array .int) (C := RX6) (T := TX6) (N := 17) hx hb ht zinX6 tyX6 tyX6_ok nmX6 hown hK hP hD hS 0 rfl rfl 1 (by decide) (ht _ zw_292) (fun _ h9 => h9) rfl hin rfl (by decide +kernel) rfl rfl (Nat.le_of_ble_eq_true rfl) dX6_init_20 (fun H locs hP hD hS => ?_)
  have hP : va_P D vwCl [(b, .inr (6, [.ref q_1, .ref q_3, .null, .null, .null, .null, .null, .int 0, .null, .int 0, .int 0, .null, .null, .int 0, .int 0, .int 0, .int 0])), (q_3, .inl (cA_3, 40000, .inl (fun _ => 0)))] H := hP
  have hD : va_D A [(b, .inr (6, [.ref q_1, .ref q_3, .null, .null, .null, .null, .null, .int 0, .null, .int 0, .int 0, .null, .null, .int 0, .int 0, .int 0, .int 0])), (q_3, .inl (cA_3, 40000, .inl (fun _ => 0)))] := hD
  refine lv_aload_n hx hb dX6_init_23 rfl (lv_at hl 0 rfl) ?_
  refine lv_sipush (v := 1000) hx hb dX6_init_24 (by decide) ?_
  refine va_newa (atype := .int) (a0 := (1000, .inl (fun _ => 0))) hx hb (ht _ zw_108) rfl hK hP hD hS hA (fun _ => rfl) (by decide) rfl (Nat.le_of_ble_eq_true rfl) (Nat.le_of_ble_eq_true rfl) (Nat.le_of_ble_eq_true rfl) dX6_init_27 (fun q_4 cA_4 H hK hP hD hS => ?_)
  have hcc : cA_3 = cA_4 := za_same hK 0 1 rfl rfl
  subst hcc
  have hK := hK.sub (tys' := [(cA_3, .int)]) [0] rfl
  have hP : va_P D vwCl [(b, .inr (6, [.ref q_1, .ref q_3, .null, .null, .null, .null, .null, .int 0, .null, .int 0, .int 0, .null, .null, .int 0, .int 0, .int 0, .int 0])), (q_3, .inl (cA_3, 40000, .inl (fun _ => 0))), (q_4, .inl (cA_3, 1000, .inl (fun _ => 0)))] H := hP
  have hD : va_D A [(b, .inr (6, [.ref q_1, .ref q_3, .null, .null, .null, .null, .null, .int 0, .null, .int 0, .int 0, .null, .null, .int 0, .int 0, .int 0, .int 0])), (q_3, .inl (cA_3, 40000, .inl (fun _ => 0))), (q_4, .inl (cA_3, 1000, .inl (fun _ => 0)))] := hD
  have hK : va_K D vwCl [(cA_3, .int)] s := hK
  refine W.widen (k := 5) (n := 41010) (Nat.le_of_ble_eq_true rfl) (Nat.le_of_ble_eq_true rfl) ?_
  refine va_putF (D := D) (ci := 6) (v := .ref q_4) (ty := .array .int) (C := RX6) (T := TX6) (N := 17) hx hb ht zinX6 tyX6 tyX6_ok nmX6 hown hK hP hD hS 0 rfl rfl 2 (by decide) (ht _ zw_293) (fun _ h9 => h9) rfl hin rfl (by decide +kernel) rfl rfl (Nat.le_of_ble_eq_true rfl) dX6_init_29 (fun H locs hP hD hS => ?_)
  have hP : va_P D vwCl [(b, .inr (6, [.ref q_1, .ref q_3, .ref q_4, .null, .null, .null, .null, .int 0, .null, .int 0, .int 0, .null, .null, .int 0, .int 0, .int 0, .int 0])), (q_3, .inl (cA_3, 40000, .inl (fun _ => 0))), (q_4, .inl (cA_3, 1000, .inl (fun _ => 0)))] H := hP
  have hD : va_D A [(b, .inr (6, [.ref q_1, .ref q_3, .ref q_4, .null, .null, .null, .null, .int 0, .null, .int 0, .int 0, .null, .null, .int 0, .int 0, .int 0, .int 0])), (q_3, .inl (cA_3, 40000, .inl (fun _ => 0))), (q_4, .inl (cA_3, 1000, .inl (fun _ => 0)))] := hD
  refine lv_aload_n hx hb dX6_init_32 rfl (lv_at hl 0 rfl) ?_
  refine lv_sipush (v := 1000) hx hb dX6_init_33 (by decide) ?_
  refine va_newa (atype := .int) (a0 := (1000, .inl (fun _ => 0))) hx hb (ht _ zw_108) rfl hK hP hD hS hA (fun _ => rfl) (by decide) rfl (Nat.le_of_ble_eq_true rfl) (Nat.le_of_ble_eq_true rfl) (Nat.le_of_ble_eq_true rfl) dX6_init_36 (fun q_5 cA_5 H hK hP hD hS => ?_)
  have hcc : cA_3 = cA_5 := za_same hK 0 1 rfl rfl
  subst hcc
  have hK := hK.sub (tys' := [(cA_3, .int)]) [0] rfl
  have hP : va_P D vwCl [(b, .inr (6, [.ref q_1, .ref q_3, .ref q_4, .null, .null, .null, .null, .int 0, .null, .int 0, .int 0, .null, .null, .int 0, .int 0, .int 0, .int 0])), (q_3, .inl (cA_3, 40000, .inl (fun _ => 0))), (q_4, .inl (cA_3, 1000, .inl (fun _ => 0))), (q_5, .inl (cA_3, 1000, .inl (fun _ => 0)))] H := hP
  have hD : va_D A [(b, .inr (6, [.ref q_1, .ref q_3, .ref q_4, .null, .null, .null, .null, .int 0, .null, .int 0, .int 0, .null, .null, .int 0, .int 0, .int 0, .int 0])), (q_3, .inl (cA_3, 40000, .inl (fun _ => 0))), (q_4, .inl (cA_3, 1000, .inl (fun _ => 0))), (q_5, .inl (cA_3, 1000, .inl (fun _ => 0)))] := hD
  have hK : va_K D vwCl [(cA_3, .int)] s := hK
  refine W.widen (k := 6) (n := 42010) (Nat.le_of_ble_eq_true rfl) (Nat.le_of_ble_eq_true rfl) ?_
  refine va_putF (D := D) (ci := 6) (v := .ref q_5) (ty := .array .int) (C := RX6) (T := TX6) (N := 17) hx hb ht zinX6 tyX6 tyX6_ok nmX6 hown hK hP hD hS 0 rfl rfl 3 (by decide) (ht _ zw_294) (fun _ h9 => h9) rfl hin rfl (by decide +kernel) rfl rfl (Nat.le_of_ble_eq_true rfl) dX6_init_38 (fun H locs hP hD hS => ?_)
  have hP : va_P D vwCl [(b, .inr (6, [.ref q_1, .ref q_3, .ref q_4, .ref q_5, .null, .null, .null, .int 0, .null, .int 0, .int 0, .null, .null, .int 0, .int 0, .int 0, .int 0])), (q_3, .inl (cA_3, 40000, .inl (fun _ => 0))), (q_4, .inl (cA_3, 1000, .inl (fun _ => 0))), (q_5, .inl (cA_3, 1000, .inl (fun _ => 0)))] H := hP
  have hD : va_D A [(b, .inr (6, [.ref q_1, .ref q_3, .ref q_4, .ref q_5, .null, .null, .null, .int 0, .null, .int 0, .int 0, .null, .null, .int 0, .int 0, .int 0, .int 0])), (q_3, .inl (cA_3, 40000, .inl (fun _ => 0))), (q_4, .inl (cA_3, 1000, .inl (fun _ => 0))), (q_5, .inl (cA_3, 1000, .inl (fun _ => 0)))] := hD
  refine lv_aload_n hx hb dX6_init_41 rfl (lv_at hl 0 rfl) ?_
  refine lv_sipush (v := 1000) hx hb dX6_init_42 (by decide) ?_
  refine va_newa (atype := .int) (a0 := (1000, .inl (fun _ => 0))) hx hb (ht _ zw_108) rfl hK hP hD hS hA (fun _ => rfl) (by decide) rfl (Nat.le_of_ble_eq_true rfl) (Nat.le_of_ble_eq_true rfl) (Nat.le_of_ble_eq_true rfl) dX6_init_45 (fun q_6 cA_6 H hK hP hD hS => ?_)
  have hcc : cA_3 = cA_6 := za_same hK 0 1 rfl rfl
  subst hcc
  have hK := hK.sub (tys' := [(cA_3, .int)]) [0] rfl
  have hP : va_P D vwCl [(b, .inr (6, [.ref q_1, .ref q_3, .ref q_4, .ref q_5, .null, .null, .null, .int 0, .null, .int 0, .int 0, .null, .null, .int 0, .int 0, .int 0, .int 0])), (q_3, .inl (cA_3, 40000, .inl (fun _ => 0))), (q_4, .inl (cA_3, 1000, .inl (fun _ => 0))), (q_5, .inl (cA_3, 1000, .inl (fun _ => 0))), (q_6, .inl (cA_3, 1000, .inl (fun _ => 0)))] H := hP
  have hD : va_D A [(b, .inr (6, [.ref q_1, .ref q_3, .ref q_4, .ref q_5, .null, .null, .null, .int 0, .null, .int 0, .int 0, .null, .null, .int 0, .int 0, .int 0, .int 0])), (q_3, .inl (cA_3, 40000, .inl (fun _ => 0))), (q_4, .inl (cA_3, 1000, .inl (fun _ => 0))), (q_5, .inl (cA_3, 1000, .inl (fun _ => 0))), (q_6, .inl (cA_3, 1000, .inl (fun _ => 0)))] := hD
  have hK : va_K D vwCl [(cA_3, .int)] s := hK
  refine W.widen (k := 7) (n := 43010) (Nat.le_of_ble_eq_true rfl) (Nat.le_of_ble_eq_true rfl) ?_
  refine va_putF (D := D) (ci := 6) (v := .ref q_6) (ty := .array .int) (C := RX6) (T := TX6) (N := 17) hx hb ht zinX6 tyX6 tyX6_ok nmX6 hown hK hP hD hS 0 rfl rfl 4 (by decide) (ht _ zw_295) (fun _ h9 => h9) rfl hin rfl (by decide +kernel) rfl rfl (Nat.le_of_ble_eq_true rfl) dX6_init_47 (fun H locs hP hD hS => ?_)
  have hP : va_P D vwCl [(b, .inr (6, [.ref q_1, .ref q_3, .ref q_4, .ref q_5, .ref q_6, .null, .null, .int 0, .null, .int 0, .int 0, .null, .null, .int 0, .int 0, .int 0, .int 0])), (q_3, .inl (cA_3, 40000, .inl (fun _ => 0))), (q_4, .inl (cA_3, 1000, .inl (fun _ => 0))), (q_5, .inl (cA_3, 1000, .inl (fun _ => 0))), (q_6, .inl (cA_3, 1000, .inl (fun _ => 0)))] H := hP
  have hD : va_D A [(b, .inr (6, [.ref q_1, .ref q_3, .ref q_4, .ref q_5, .ref q_6, .null, .null, .int 0, .null, .int 0, .int 0, .null, .null, .int 0, .int 0, .int 0, .int 0])), (q_3, .inl (cA_3, 40000, .inl (fun _ => 0))), (q_4, .inl (cA_3, 1000, .inl (fun _ => 0))), (q_5, .inl (cA_3, 1000, .inl (fun _ => 0))), (q_6, .inl (cA_3, 1000, .inl (fun _ => 0)))] := hD
  refine lv_aload_n hx hb dX6_init_50 rfl (lv_at hl 0 rfl) ?_
  refine lv_sipush (v := 2048) hx hb dX6_init_51 (by decide) ?_
  refine va_newa (atype := .int) (a0 := (2048, .inl (fun _ => 0))) hx hb (ht _ zw_108) rfl hK hP hD hS hA (fun _ => rfl) (by decide) rfl (Nat.le_of_ble_eq_true rfl) (Nat.le_of_ble_eq_true rfl) (Nat.le_of_ble_eq_true rfl) dX6_init_54 (fun q_7 cA_7 H hK hP hD hS => ?_)
  have hcc : cA_3 = cA_7 := za_same hK 0 1 rfl rfl
  subst hcc
  have hK := hK.sub (tys' := [(cA_3, .int)]) [0] rfl
  have hP : va_P D vwCl [(b, .inr (6, [.ref q_1, .ref q_3, .ref q_4, .ref q_5, .ref q_6, .null, .null, .int 0, .null, .int 0, .int 0, .null, .null, .int 0, .int 0, .int 0, .int 0])), (q_3, .inl (cA_3, 40000, .inl (fun _ => 0))), (q_4, .inl (cA_3, 1000, .inl (fun _ => 0))), (q_5, .inl (cA_3, 1000, .inl (fun _ => 0))), (q_6, .inl (cA_3, 1000, .inl (fun _ => 0))), (q_7, .inl (cA_3, 2048, .inl (fun _ => 0)))] H := hP
  have hD : va_D A [(b, .inr (6, [.ref q_1, .ref q_3, .ref q_4, .ref q_5, .ref q_6, .null, .null, .int 0, .null, .int 0, .int 0, .null, .null, .int 0, .int 0, .int 0, .int 0])), (q_3, .inl (cA_3, 40000, .inl (fun _ => 0))), (q_4, .inl (cA_3, 1000, .inl (fun _ => 0))), (q_5, .inl (cA_3, 1000, .inl (fun _ => 0))), (q_6, .inl (cA_3, 1000, .inl (fun _ => 0))), (q_7, .inl (cA_3, 2048, .inl (fun _ => 0)))] := hD
  have hK : va_K D vwCl [(cA_3, .int)] s := hK
  refine W.widen (k := 8) (n := 45058) (Nat.le_of_ble_eq_true rfl) (Nat.le_of_ble_eq_true rfl) ?_
  refine va_putF (D := D) (ci := 6) (v := .ref q_7) (ty := .array .int) (C := RX6) (T := TX6) (N := 17) hx hb ht zinX6 tyX6 tyX6_ok nmX6 hown hK hP hD hS 0 rfl rfl 5 (by decide) (ht _ zw_296) (fun _ h9 => h9) rfl hin rfl (by decide +kernel) rfl rfl (Nat.le_of_ble_eq_true rfl) dX6_init_56 (fun H locs hP hD hS => ?_)
  have hP : va_P D vwCl [(b, .inr (6, [.ref q_1, .ref q_3, .ref q_4, .ref q_5, .ref q_6, .ref q_7, .null, .int 0, .null, .int 0, .int 0, .null, .null, .int 0, .int 0, .int 0, .int 0])), (q_3, .inl (cA_3, 40000, .inl (fun _ => 0))), (q_4, .inl (cA_3, 1000, .inl (fun _ => 0))), (q_5, .inl (cA_3, 1000, .inl (fun _ => 0))), (q_6, .inl (cA_3, 1000, .inl (fun _ => 0))), (q_7, .inl (cA_3, 2048, .inl (fun _ => 0)))] H := hP
  have hD : va_D A [(b, .inr (6, [.ref q_1, .ref q_3, .ref q_4, .ref q_5, .ref q_6, .ref q_7, .null, .int 0, .null, .int 0, .int 0, .null, .null, .int 0, .int 0, .int 0, .int 0])), (q_3, .inl (cA_3, 40000, .inl (fun _ => 0))), (q_4, .inl (cA_3, 1000, .inl (fun _ => 0))), (q_5, .inl (cA_3, 1000, .inl (fun _ => 0))), (q_6, .inl (cA_3, 1000, .inl (fun _ => 0))), (q_7, .inl (cA_3, 2048, .inl (fun _ => 0)))] := hD
  refine lv_aload_n hx hb dX6_init_59 rfl (lv_at hl 0 rfl) ?_
  refine lv_bipush (v := 40) hx hb dX6_init_60 (by decide) ?_
  refine va_newa (atype := .int) (a0 := (40, .inl (fun _ => 0))) hx hb (ht _ zw_108) rfl hK hP hD hS hA (fun _ => rfl) (by decide) rfl (Nat.le_of_ble_eq_true rfl) (Nat.le_of_ble_eq_true rfl) (Nat.le_of_ble_eq_true rfl) dX6_init_62 (fun q_8 cA_8 H hK hP hD hS => ?_)
  have hcc : cA_3 = cA_8 := za_same hK 0 1 rfl rfl
  subst hcc
  have hK := hK.sub (tys' := [(cA_3, .int)]) [0] rfl
  have hP : va_P D vwCl [(b, .inr (6, [.ref q_1, .ref q_3, .ref q_4, .ref q_5, .ref q_6, .ref q_7, .null, .int 0, .null, .int 0, .int 0, .null, .null, .int 0, .int 0, .int 0, .int 0])), (q_3, .inl (cA_3, 40000, .inl (fun _ => 0))), (q_4, .inl (cA_3, 1000, .inl (fun _ => 0))), (q_5, .inl (cA_3, 1000, .inl (fun _ => 0))), (q_6, .inl (cA_3, 1000, .inl (fun _ => 0))), (q_7, .inl (cA_3, 2048, .inl (fun _ => 0))), (q_8, .inl (cA_3, 40, .inl (fun _ => 0)))] H := hP
  have hD : va_D A [(b, .inr (6, [.ref q_1, .ref q_3, .ref q_4, .ref q_5, .ref q_6, .ref q_7, .null, .int 0, .null, .int 0, .int 0, .null, .null, .int 0, .int 0, .int 0, .int 0])), (q_3, .inl (cA_3, 40000, .inl (fun _ => 0))), (q_4, .inl (cA_3, 1000, .inl (fun _ => 0))), (q_5, .inl (cA_3, 1000, .inl (fun _ => 0))), (q_6, .inl (cA_3, 1000, .inl (fun _ => 0))), (q_7, .inl (cA_3, 2048, .inl (fun _ => 0))), (q_8, .inl (cA_3, 40, .inl (fun _ => 0)))] := hD
  have hK : va_K D vwCl [(cA_3, .int)] s := hK
  refine W.widen (k := 9) (n := 45098) (Nat.le_of_ble_eq_true rfl) (Nat.le_of_ble_eq_true rfl) ?_
  refine va_putF (D := D) (ci := 6) (v := .ref q_8) (ty := .array .int) (C := RX6) (T := TX6) (N := 17) hx hb ht zinX6 tyX6 tyX6_ok nmX6 hown hK hP hD hS 0 rfl rfl 6 (by decide) (ht _ zw_297) (fun _ h9 => h9) rfl hin rfl (by decide +kernel) rfl rfl (Nat.le_of_ble_eq_true rfl) dX6_init_64 (fun H locs hP hD hS => ?_)
  have hP : va_P D vwCl [(b, .inr (6, [.ref q_1, .ref q_3, .ref q_4, .ref q_5, .ref q_6, .ref q_7, .ref q_8, .int 0, .null, .int 0, .int 0, .null, .null, .int 0, .int 0, .int 0, .int 0])), (q_3, .inl (cA_3, 40000, .inl (fun _ => 0))), (q_4, .inl (cA_3, 1000, .inl (fun _ => 0))), (q_5, .inl (cA_3, 1000, .inl (fun _ => 0))), (q_6, .inl (cA_3, 1000, .inl (fun _ => 0))), (q_7, .inl (cA_3, 2048, .inl (fun _ => 0))), (q_8, .inl (cA_3, 40, .inl (fun _ => 0)))] H := hP
  have hD : va_D A [(b, .inr (6, [.ref q_1, .ref q_3, .ref q_4, .ref q_5, .ref q_6, .ref q_7, .ref q_8, .int 0, .null, .int 0, .int 0, .null, .null, .int 0, .int 0, .int 0, .int 0])), (q_3, .inl (cA_3, 40000, .inl (fun _ => 0))), (q_4, .inl (cA_3, 1000, .inl (fun _ => 0))), (q_5, .inl (cA_3, 1000, .inl (fun _ => 0))), (q_6, .inl (cA_3, 1000, .inl (fun _ => 0))), (q_7, .inl (cA_3, 2048, .inl (fun _ => 0))), (q_8, .inl (cA_3, 40, .inl (fun _ => 0)))] := hD
  refine lv_aload_n hx hb dX6_init_67 rfl (lv_at hl 0 rfl) ?_
  refine lv_iconst (v := 0) hx hb dX6_init_68 (by decide) ?_
  refine va_put (D := D) (ci := 6) (v := .int 0) (ty := .int) (C := RX6) (T := TX6) (N := 17) hx hb ht zinX6 tyX6 tyX6_ok nmX6 hown hK hP hD hS 0 rfl rfl 7 (by decide) (ht _ zw_298) (fun _ h9 => h9) rfl (by decide +kernel) rfl rfl (Nat.le_of_ble_eq_true rfl) dX6_init_69 (fun H locs hP hD hS => ?_)
  have hP : va_P D vwCl [(b, .inr (6, [.ref q_1, .ref q_3, .ref q_4, .ref q_5, .ref q_6, .ref q_7, .ref q_8, .int 0, .null, .int 0, .int 0, .null, .null, .int 0, .int 0, .int 0, .int 0])), (q_3, .inl (cA_3, 40000, .inl (fun _ => 0))), (q_4, .inl (cA_3, 1000, .inl (fun _ => 0))), (q_5, .inl (cA_3, 1000, .inl (fun _ => 0))), (q_6, .inl (cA_3, 1000, .inl (fun _ => 0))), (q_7, .inl (cA_3, 2048, .inl (fun _ => 0))), (q_8, .inl (cA_3, 40, .inl (fun _ => 0)))] H := hP
  have hD : va_D A [(b, .inr (6, [.ref q_1, .ref q_3, .ref q_4, .ref q_5, .ref q_6, .ref q_7, .ref q_8, .int 0, .null, .int 0, .int 0, .null, .null, .int 0, .int 0, .int 0, .int 0])), (q_3, .inl (cA_3, 40000, .inl (fun _ => 0))), (q_4, .inl (cA_3, 1000, .inl (fun _ => 0))), (q_5, .inl (cA_3, 1000, .inl (fun _ => 0))), (q_6, .inl (cA_3, 1000, .inl (fun _ => 0))), (q_7, .inl (cA_3, 2048, .inl (fun _ => 0))), (q_8, .inl (cA_3, 40, .inl (fun _ => 0)))] := hD
  refine lv_aload_n hx hb dX6_init_72 rfl (lv_at hl 0 rfl) ?_
  refine va_new (ci := 9) (fs := [.null, .null, .null, .int 0, .int 0, .int 0]) (C := RX9) (T := TX9) (N := 6) hx hb ht zinX9 tyX9 tyX9_ok hown (ht _ zw_299) (ht _ zw_257) (ht _ zw_258) hK hP hD hS hA rfl (fun j hj => by rcases (show j = 0 ∨ j = 1 ∨ j = 2 ∨ j = 3 ∨ j = 4 ∨ j = 5 by omega) with rfl | rfl | rfl | rfl | rfl | rfl <;> rfl) (Nat.le_of_ble_eq_true rfl) (Nat.le_of_ble_eq_true rfl) dX6_init_73 (fun q_9 H hP hD hS => ?_)
  have hP : va_P D vwCl [(b, .inr (6, [.ref q_1, .ref q_3, .ref q_4, .ref q_5, .ref q_6, .ref q_7, .ref q_8, .int 0, .null, .int 0, .int 0, .null, .null, .int 0, .int 0, .int 0, .int 0])), (q_3, .inl (cA_3, 40000, .inl (fun _ => 0))), (q_4, .inl (cA_3, 1000, .inl (fun _ => 0))), (q_5, .inl (cA_3, 1000, .inl (fun _ => 0))), (q_6, .inl (cA_3, 1000, .inl (fun _ => 0))), (q_7, .inl (cA_3, 2048, .inl (fun _ => 0))), (q_8, .inl (cA_3, 40, .inl (fun _ => 0))), (q_9, .inr (9, [.null, .null, .null, .int 0, .int 0, .int 0]))] H := hP
  have hD : va_D A [(b, .inr (6, [.ref q_1, .ref q_3, .ref q_4, .ref q_5, .ref q_6, .ref q_7, .ref q_8, .int 0, .null, .int 0, .int 0, .null, .null, .int 0, .int 0, .int 0, .int 0])), (q_3, .inl (cA_3, 40000, .inl (fun _ => 0))), (q_4, .inl (cA_3, 1000, .inl (fun _ => 0))), (q_5, .inl (cA_3, 1000, .inl (fun _ => 0))), (q_6, .inl (cA_3, 1000, .inl (fun _ => 0))), (q_7, .inl (cA_3, 2048, .inl (fun _ => 0))), (q_8, .inl (cA_3, 40, .inl (fun _ => 0))), (q_9, .inr (9, [.null, .null, .null, .int 0, .int 0, .int 0]))] := hD
  refine W.widen (k := 10) (n := 45104) (Nat.le_of_ble_eq_true rfl) (Nat.le_of_ble_eq_true rfl) ?_
  refine lv_dup hx hb dX6_init_76 rfl ?_
  refine lv_bipush (v := 40) hx hb dX6_init_77 (by decide) ?_
  have hPc := hP.sub (ws' := [(q_9, .inr (9, [.null, .null, .null, .int 0, .int 0, .int 0]))]) [7] rfl
  have hDc := hD.sub (ws' := [(q_9, .inr (9, [.null, .null, .null, .int 0, .int 0, .int 0]))]) [7] (by decide) rfl
  have hKc := hK.sub (tys' := []) [] rfl
  have hFc := va_free (wc := [(q_9, .inr (9, [.null, .null, .null, .int 0, .int 0, .int 0]))]) hD hS hA [7] rfl
  refine va_callv (va_runI (As := [.int 40]) (rest := [.ref q_9, .ref b]) ⟨hx, hb, hml, hown, ht⟩ (k_X9_init_40 l _ D q_9) (cwI 1 ht (zG zw_259) rfl rfl rfl (ht _ zw_258) (ht _ zw_300) (ht _ zw_261) rfl (by decide +kernel) ⟨Nat.le_of_ble_eq_true rfl, Nat.le_of_ble_eq_true rfl⟩) (zXw_I (fun _ _ => zTab.warm) hX hPc hKc hDc) rfl rfl hl.1 rfl (lv_room (Nat.le_of_ble_eq_true rfl)) dX6_init_79 ⟨Nat.le_of_ble_eq_true rfl, Nat.le_of_ble_eq_true rfl⟩) hS (fun q _ h => hFc q h) hFc (fun u_10 t H1 locs ht0 hvm hw_10 hB hz1 hk1 hS => ?_)
  obtain ⟨q1_10, q2_10, q3_10, cI_10, hB⟩ := hB
  obtain ⟨hP1, hK1, hD1⟩ := hB
  rw [ht0] at hP1
  have hK1 := va_K.moved hvm.symm hK1
  obtain ⟨hP, hD⟩ := va_join (wr := [(b, .inr (6, [.ref q_1, .ref q_3, .ref q_4, .ref q_5, .ref q_6, .ref q_7, .ref q_8, .int 0, .null, .int 0, .int 0, .null, .null, .int 0, .int 0, .int 0, .int 0])), (q_3, .inl (cA_3, 40000, .inl (fun _ => 0))), (q_4, .inl (cA_3, 1000, .inl (fun _ => 0))), (q_5, .inl (cA_3, 1000, .inl (fun _ => 0))), (q_6, .inl (cA_3, 1000, .inl (fun _ => 0))), (q_7, .inl (cA_3, 2048, .inl (fun _ => 0))), (q_8, .inl (cA_3, 40, .inl (fun _ => 0)))]) (w1 := [(q_9, .inr (9, [.ref q1_10, .ref q2_10, .ref q3_10, .int 0, .int 0, .int 0])), (q1_10, .inl (cI_10, 40, .inl (fun _ => 0))), (q2_10, .inl (cI_10, 40, .inl (fun _ => 0))), (q3_10, .inl (cI_10, 40, .inl (fun _ => 0)))]) hP hD [7] [0, 1, 2, 3, 4, 5, 6] rfl rfl (by decide) (by decide) hk1 hFc hP1 hD1
  have hK := hK.app hK1
  generalize H1 = H at hP hS ⊢
  have hP : va_P D vwCl [(b, .inr (6, [.ref q_1, .ref q_3, .ref q_4, .ref q_5, .ref q_6, .ref q_7, .ref q_8, .int 0, .null, .int 0, .int 0, .null, .null, .int 0, .int 0, .int 0, .int 0])), (q_3, .inl (cA_3, 40000, .inl (fun _ => 0))), (q_4, .inl (cA_3, 1000, .inl (fun _ => 0))), (q_5, .inl (cA_3, 1000, .inl (fun _ => 0))), (q_6, .inl (cA_3, 1000, .inl (fun _ => 0))), (q_7, .inl (cA_3, 2048, .inl (fun _ => 0))), (q_8, .inl (cA_3, 40, .inl (fun _ => 0))), (q_9, .inr (9, [.ref q1_10, .ref q2_10, .ref q3_10, .int 0, .int 0, .int 0])), (q1_10, .inl (cI_10, 40, .inl (fun _ => 0))), (q2_10, .inl (cI_10, 40, .inl (fun _ => 0))), (q3_10, .inl (cI_10, 40, .inl (fun _ => 0)))] H := hP
  have hD : va_D A [(b, .inr (6, [.ref q_1, .ref q_3, .ref q_4, .ref q_5, .ref q_6, .ref q_7, .ref q_8, .int 0, .null, .int 0, .int 0, .null, .null, .int 0, .int 0, .int 0, .int 0])), (q_3, .inl (cA_3, 40000, .inl (fun _ => 0))), (q_4, .inl (cA_3, 1000, .inl (fun _ => 0))), (q_5, .inl (cA_3, 1000, .inl (fun _ => 0))), (q_6, .inl (cA_3, 1000, .inl (fun _ => 0))), (q_7, .inl (cA_3, 2048, .inl (fun _ => 0))), (q_8, .inl (cA_3, 40, .inl (fun _ => 0))), (q_9, .inr (9, [.ref q1_10, .ref q2_10, .ref q3_10, .int 0, .int 0, .int 0])), (q1_10, .inl (cI_10, 40, .inl (fun _ => 0))), (q2_10, .inl (cI_10, 40, .inl (fun _ => 0))), (q3_10, .inl (cI_10, 40, .inl (fun _ => 0)))] := hD
  have hK : va_K D vwCl [(cA_3, .int), (cI_10, .int)] s := hK
  have hcc : cA_3 = cI_10 := za_same hK 0 1 rfl rfl
  subst hcc
  have hK := hK.sub (tys' := [(cA_3, .int)]) [0] rfl
  refine W.widen (k := 13) (n := 45224) (Nat.le_of_ble_eq_true rfl) (Nat.le_of_ble_eq_true rfl) ?_
  have hP := hP.sub (ws' := [(b, .inr (6, [.ref q_1, .ref q_3, .ref q_4, .ref q_5, .ref q_6, .ref q_7, .ref q_8, .int 0, .null, .int 0, .int 0, .null, .null, .int 0, .int 0, .int 0, .int 0])), (q_3, .inl (cA_3, 40000, .inl (fun _ => 0))), (q_4, .inl (cA_3, 1000, .inl (fun _ => 0))), (q_5, .inl (cA_3, 1000, .inl (fun _ => 0))), (q_6, .inl (cA_3, 1000, .inl (fun _ => 0))), (q_7, .inl (cA_3, 2048, .inl (fun _ => 0))), (q_8, .inl (cA_3, 40, .inl (fun _ => 0))), (q_9, .inr (9, [.ref q1_10, .ref q2_10, .ref q3_10, .int 0, .int 0, .int 0]))]) [0, 1, 2, 3, 4, 5, 6, 7] rfl
  have hD := hD.sub (ws' := [(b, .inr (6, [.ref q_1, .ref q_3, .ref q_4, .ref q_5, .ref q_6, .ref q_7, .ref q_8, .int 0, .null, .int 0, .int 0, .null, .null, .int 0, .int 0, .int 0, .int 0])), (q_3, .inl (cA_3, 40000, .inl (fun _ => 0))), (q_4, .inl (cA_3, 1000, .inl (fun _ => 0))), (q_5, .inl (cA_3, 1000, .inl (fun _ => 0))), (q_6, .inl (cA_3, 1000, .inl (fun _ => 0))), (q_7, .inl (cA_3, 2048, .inl (fun _ => 0))), (q_8, .inl (cA_3, 40, .inl (fun _ => 0))), (q_9, .inr (9, [.ref q1_10, .ref q2_10, .ref q3_10, .int 0, .int 0, .int 0]))]) [0, 1, 2, 3, 4, 5, 6, 7] (by decide) rfl
  have hP : va_P D vwCl [(b, .inr (6, [.ref q_1, .ref q_3, .ref q_4, .ref q_5, .ref q_6, .ref q_7, .ref q_8, .int 0, .null, .int 0, .int 0, .null, .null, .int 0, .int 0, .int 0, .int 0])), (q_3, .inl (cA_3, 40000, .inl (fun _ => 0))), (q_4, .inl (cA_3, 1000, .inl (fun _ => 0))), (q_5, .inl (cA_3, 1000, .inl (fun _ => 0))), (q_6, .inl (cA_3, 1000, .inl (fun _ => 0))), (q_7, .inl (cA_3, 2048, .inl (fun _ => 0))), (q_8, .inl (cA_3, 40, .inl (fun _ => 0))), (q_9, .inr (9, [.ref q1_10, .ref q2_10, .ref q3_10, .int 0, .int 0, .int 0]))] H := hP
  have hD : va_D A [(b, .inr (6, [.ref q_1, .ref q_3, .ref q_4, .ref q_5, .ref q_6, .ref q_7, .ref q_8, .int 0, .null, .int 0, .int 0, .null, .null, .int 0, .int 0, .int 0, .int 0])), (q_3, .inl (cA_3, 40000, .inl (fun _ => 0))), (q_4, .inl (cA_3, 1000, .inl (fun _ => 0))), (q_5, .inl (cA_3, 1000, .inl (fun _ => 0))), (q_6, .inl (cA_3, 1000, .inl (fun _ => 0))), (q_7, .inl (cA_3, 2048, .inl (fun _ => 0))), (q_8, .inl (cA_3, 40, .inl (fun _ => 0))), (q_9, .inr (9, [.ref q1_10, .ref q2_10, .ref q3_10, .int 0, .int 0, .int 0]))] := hD
  refine va_putF (D := D) (ci := 6) (v := .ref q_9) (ty := .object "Chainwork$Term") (C := RX6) (T := TX6) (N := 17) hx hb ht zinX6 tyX6 tyX6_ok nmX6 hown hK hP hD hS 0 rfl rfl 8 (by decide) (ht _ zw_301) (fun _ h9 => h9) rfl hin rfl (by decide +kernel) rfl rfl (Nat.le_of_ble_eq_true rfl) dX6_init_82 (fun H locs hP hD hS => ?_)
  have hP : va_P D vwCl [(b, .inr (6, [.ref q_1, .ref q_3, .ref q_4, .ref q_5, .ref q_6, .ref q_7, .ref q_8, .int 0, .ref q_9, .int 0, .int 0, .null, .null, .int 0, .int 0, .int 0, .int 0])), (q_3, .inl (cA_3, 40000, .inl (fun _ => 0))), (q_4, .inl (cA_3, 1000, .inl (fun _ => 0))), (q_5, .inl (cA_3, 1000, .inl (fun _ => 0))), (q_6, .inl (cA_3, 1000, .inl (fun _ => 0))), (q_7, .inl (cA_3, 2048, .inl (fun _ => 0))), (q_8, .inl (cA_3, 40, .inl (fun _ => 0))), (q_9, .inr (9, [.ref q1_10, .ref q2_10, .ref q3_10, .int 0, .int 0, .int 0]))] H := hP
  have hD : va_D A [(b, .inr (6, [.ref q_1, .ref q_3, .ref q_4, .ref q_5, .ref q_6, .ref q_7, .ref q_8, .int 0, .ref q_9, .int 0, .int 0, .null, .null, .int 0, .int 0, .int 0, .int 0])), (q_3, .inl (cA_3, 40000, .inl (fun _ => 0))), (q_4, .inl (cA_3, 1000, .inl (fun _ => 0))), (q_5, .inl (cA_3, 1000, .inl (fun _ => 0))), (q_6, .inl (cA_3, 1000, .inl (fun _ => 0))), (q_7, .inl (cA_3, 2048, .inl (fun _ => 0))), (q_8, .inl (cA_3, 40, .inl (fun _ => 0))), (q_9, .inr (9, [.ref q1_10, .ref q2_10, .ref q3_10, .int 0, .int 0, .int 0]))] := hD
  refine lv_aload_n hx hb dX6_init_85 rfl (lv_at hl 0 rfl) ?_
  refine lv_iconst (v := 0) hx hb dX6_init_86 (by decide) ?_
  refine va_put (D := D) (ci := 6) (v := .int 0) (ty := .int) (C := RX6) (T := TX6) (N := 17) hx hb ht zinX6 tyX6 tyX6_ok nmX6 hown hK hP hD hS 0 rfl rfl 9 (by decide) (ht _ zw_302) (fun _ h9 => h9) rfl (by decide +kernel) rfl rfl (Nat.le_of_ble_eq_true rfl) dX6_init_87 (fun H locs hP hD hS => ?_)
  have hP : va_P D vwCl [(b, .inr (6, [.ref q_1, .ref q_3, .ref q_4, .ref q_5, .ref q_6, .ref q_7, .ref q_8, .int 0, .ref q_9, .int 0, .int 0, .null, .null, .int 0, .int 0, .int 0, .int 0])), (q_3, .inl (cA_3, 40000, .inl (fun _ => 0))), (q_4, .inl (cA_3, 1000, .inl (fun _ => 0))), (q_5, .inl (cA_3, 1000, .inl (fun _ => 0))), (q_6, .inl (cA_3, 1000, .inl (fun _ => 0))), (q_7, .inl (cA_3, 2048, .inl (fun _ => 0))), (q_8, .inl (cA_3, 40, .inl (fun _ => 0))), (q_9, .inr (9, [.ref q1_10, .ref q2_10, .ref q3_10, .int 0, .int 0, .int 0]))] H := hP
  have hD : va_D A [(b, .inr (6, [.ref q_1, .ref q_3, .ref q_4, .ref q_5, .ref q_6, .ref q_7, .ref q_8, .int 0, .ref q_9, .int 0, .int 0, .null, .null, .int 0, .int 0, .int 0, .int 0])), (q_3, .inl (cA_3, 40000, .inl (fun _ => 0))), (q_4, .inl (cA_3, 1000, .inl (fun _ => 0))), (q_5, .inl (cA_3, 1000, .inl (fun _ => 0))), (q_6, .inl (cA_3, 1000, .inl (fun _ => 0))), (q_7, .inl (cA_3, 2048, .inl (fun _ => 0))), (q_8, .inl (cA_3, 40, .inl (fun _ => 0))), (q_9, .inr (9, [.ref q1_10, .ref q2_10, .ref q3_10, .int 0, .int 0, .int 0]))] := hD
  refine lv_aload_n hx hb dX6_init_90 rfl (lv_at hl 0 rfl) ?_
  refine lv_iconst (v := 0) hx hb dX6_init_91 (by decide) ?_
  refine va_put (D := D) (ci := 6) (v := .int 0) (ty := .int) (C := RX6) (T := TX6) (N := 17) hx hb ht zinX6 tyX6 tyX6_ok nmX6 hown hK hP hD hS 0 rfl rfl 10 (by decide) (ht _ zw_303) (fun _ h9 => h9) rfl (by decide +kernel) rfl rfl (Nat.le_of_ble_eq_true rfl) dX6_init_92 (fun H locs hP hD hS => ?_)
  have hP : va_P D vwCl [(b, .inr (6, [.ref q_1, .ref q_3, .ref q_4, .ref q_5, .ref q_6, .ref q_7, .ref q_8, .int 0, .ref q_9, .int 0, .int 0, .null, .null, .int 0, .int 0, .int 0, .int 0])), (q_3, .inl (cA_3, 40000, .inl (fun _ => 0))), (q_4, .inl (cA_3, 1000, .inl (fun _ => 0))), (q_5, .inl (cA_3, 1000, .inl (fun _ => 0))), (q_6, .inl (cA_3, 1000, .inl (fun _ => 0))), (q_7, .inl (cA_3, 2048, .inl (fun _ => 0))), (q_8, .inl (cA_3, 40, .inl (fun _ => 0))), (q_9, .inr (9, [.ref q1_10, .ref q2_10, .ref q3_10, .int 0, .int 0, .int 0]))] H := hP
  have hD : va_D A [(b, .inr (6, [.ref q_1, .ref q_3, .ref q_4, .ref q_5, .ref q_6, .ref q_7, .ref q_8, .int 0, .ref q_9, .int 0, .int 0, .null, .null, .int 0, .int 0, .int 0, .int 0])), (q_3, .inl (cA_3, 40000, .inl (fun _ => 0))), (q_4, .inl (cA_3, 1000, .inl (fun _ => 0))), (q_5, .inl (cA_3, 1000, .inl (fun _ => 0))), (q_6, .inl (cA_3, 1000, .inl (fun _ => 0))), (q_7, .inl (cA_3, 2048, .inl (fun _ => 0))), (q_8, .inl (cA_3, 40, .inl (fun _ => 0))), (q_9, .inr (9, [.ref q1_10, .ref q2_10, .ref q3_10, .int 0, .int 0, .int 0]))] := hD
  refine lv_aload_n hx hb dX6_init_95 rfl (lv_at hl 0 rfl) ?_
  refine lv_null hx hb dX6_init_96 ?_
  refine va_put (D := D) (ci := 6) (v := .null) (ty := .object "Chainwork$Term") (C := RX6) (T := TX6) (N := 17) hx hb ht zinX6 tyX6 tyX6_ok nmX6 hown hK hP hD hS 0 rfl rfl 11 (by decide) (ht _ zw_304) (fun _ h9 => h9) rfl (by decide +kernel) rfl rfl (Nat.le_of_ble_eq_true rfl) dX6_init_97 (fun H locs hP hD hS => ?_)
  have hP : va_P D vwCl [(b, .inr (6, [.ref q_1, .ref q_3, .ref q_4, .ref q_5, .ref q_6, .ref q_7, .ref q_8, .int 0, .ref q_9, .int 0, .int 0, .null, .null, .int 0, .int 0, .int 0, .int 0])), (q_3, .inl (cA_3, 40000, .inl (fun _ => 0))), (q_4, .inl (cA_3, 1000, .inl (fun _ => 0))), (q_5, .inl (cA_3, 1000, .inl (fun _ => 0))), (q_6, .inl (cA_3, 1000, .inl (fun _ => 0))), (q_7, .inl (cA_3, 2048, .inl (fun _ => 0))), (q_8, .inl (cA_3, 40, .inl (fun _ => 0))), (q_9, .inr (9, [.ref q1_10, .ref q2_10, .ref q3_10, .int 0, .int 0, .int 0]))] H := hP
  have hD : va_D A [(b, .inr (6, [.ref q_1, .ref q_3, .ref q_4, .ref q_5, .ref q_6, .ref q_7, .ref q_8, .int 0, .ref q_9, .int 0, .int 0, .null, .null, .int 0, .int 0, .int 0, .int 0])), (q_3, .inl (cA_3, 40000, .inl (fun _ => 0))), (q_4, .inl (cA_3, 1000, .inl (fun _ => 0))), (q_5, .inl (cA_3, 1000, .inl (fun _ => 0))), (q_6, .inl (cA_3, 1000, .inl (fun _ => 0))), (q_7, .inl (cA_3, 2048, .inl (fun _ => 0))), (q_8, .inl (cA_3, 40, .inl (fun _ => 0))), (q_9, .inr (9, [.ref q1_10, .ref q2_10, .ref q3_10, .int 0, .int 0, .int 0]))] := hD
  refine lv_aload_n hx hb dX6_init_100 rfl (lv_at hl 0 rfl) ?_
  refine lv_null hx hb dX6_init_101 ?_
  refine va_put (D := D) (ci := 6) (v := .null) (ty := .object "Chainwork$Term") (C := RX6) (T := TX6) (N := 17) hx hb ht zinX6 tyX6 tyX6_ok nmX6 hown hK hP hD hS 0 rfl rfl 12 (by decide) (ht _ zw_305) (fun _ h9 => h9) rfl (by decide +kernel) rfl rfl (Nat.le_of_ble_eq_true rfl) dX6_init_102 (fun H locs hP hD hS => ?_)
  have hP : va_P D vwCl [(b, .inr (6, [.ref q_1, .ref q_3, .ref q_4, .ref q_5, .ref q_6, .ref q_7, .ref q_8, .int 0, .ref q_9, .int 0, .int 0, .null, .null, .int 0, .int 0, .int 0, .int 0])), (q_3, .inl (cA_3, 40000, .inl (fun _ => 0))), (q_4, .inl (cA_3, 1000, .inl (fun _ => 0))), (q_5, .inl (cA_3, 1000, .inl (fun _ => 0))), (q_6, .inl (cA_3, 1000, .inl (fun _ => 0))), (q_7, .inl (cA_3, 2048, .inl (fun _ => 0))), (q_8, .inl (cA_3, 40, .inl (fun _ => 0))), (q_9, .inr (9, [.ref q1_10, .ref q2_10, .ref q3_10, .int 0, .int 0, .int 0]))] H := hP
  have hD : va_D A [(b, .inr (6, [.ref q_1, .ref q_3, .ref q_4, .ref q_5, .ref q_6, .ref q_7, .ref q_8, .int 0, .ref q_9, .int 0, .int 0, .null, .null, .int 0, .int 0, .int 0, .int 0])), (q_3, .inl (cA_3, 40000, .inl (fun _ => 0))), (q_4, .inl (cA_3, 1000, .inl (fun _ => 0))), (q_5, .inl (cA_3, 1000, .inl (fun _ => 0))), (q_6, .inl (cA_3, 1000, .inl (fun _ => 0))), (q_7, .inl (cA_3, 2048, .inl (fun _ => 0))), (q_8, .inl (cA_3, 40, .inl (fun _ => 0))), (q_9, .inr (9, [.ref q1_10, .ref q2_10, .ref q3_10, .int 0, .int 0, .int 0]))] := hD
  refine lv_aload_n hx hb dX6_init_105 rfl (lv_at hl 0 rfl) ?_
  refine lv_iconst (v := 0) hx hb dX6_init_106 (by decide) ?_
  refine va_put (D := D) (ci := 6) (v := .int 0) (ty := .int) (C := RX6) (T := TX6) (N := 17) hx hb ht zinX6 tyX6 tyX6_ok nmX6 hown hK hP hD hS 0 rfl rfl 13 (by decide) (ht _ zw_306) (fun _ h9 => h9) rfl (by decide +kernel) rfl rfl (Nat.le_of_ble_eq_true rfl) dX6_init_107 (fun H locs hP hD hS => ?_)
  have hP : va_P D vwCl [(b, .inr (6, [.ref q_1, .ref q_3, .ref q_4, .ref q_5, .ref q_6, .ref q_7, .ref q_8, .int 0, .ref q_9, .int 0, .int 0, .null, .null, .int 0, .int 0, .int 0, .int 0])), (q_3, .inl (cA_3, 40000, .inl (fun _ => 0))), (q_4, .inl (cA_3, 1000, .inl (fun _ => 0))), (q_5, .inl (cA_3, 1000, .inl (fun _ => 0))), (q_6, .inl (cA_3, 1000, .inl (fun _ => 0))), (q_7, .inl (cA_3, 2048, .inl (fun _ => 0))), (q_8, .inl (cA_3, 40, .inl (fun _ => 0))), (q_9, .inr (9, [.ref q1_10, .ref q2_10, .ref q3_10, .int 0, .int 0, .int 0]))] H := hP
  have hD : va_D A [(b, .inr (6, [.ref q_1, .ref q_3, .ref q_4, .ref q_5, .ref q_6, .ref q_7, .ref q_8, .int 0, .ref q_9, .int 0, .int 0, .null, .null, .int 0, .int 0, .int 0, .int 0])), (q_3, .inl (cA_3, 40000, .inl (fun _ => 0))), (q_4, .inl (cA_3, 1000, .inl (fun _ => 0))), (q_5, .inl (cA_3, 1000, .inl (fun _ => 0))), (q_6, .inl (cA_3, 1000, .inl (fun _ => 0))), (q_7, .inl (cA_3, 2048, .inl (fun _ => 0))), (q_8, .inl (cA_3, 40, .inl (fun _ => 0))), (q_9, .inr (9, [.ref q1_10, .ref q2_10, .ref q3_10, .int 0, .int 0, .int 0]))] := hD
  refine lv_aload_n hx hb dX6_init_110 rfl (lv_at hl 0 rfl) ?_
  refine lv_iconst (v := 0) hx hb dX6_init_111 (by decide) ?_
  refine va_put (D := D) (ci := 6) (v := .int 0) (ty := .boolean) (C := RX6) (T := TX6) (N := 17) hx hb ht zinX6 tyX6 tyX6_ok nmX6 hown hK hP hD hS 0 rfl rfl 14 (by decide) (ht _ zw_307) (fun _ h9 => h9) rfl (by decide +kernel) rfl rfl (Nat.le_of_ble_eq_true rfl) dX6_init_112 (fun H locs hP hD hS => ?_)
  have hP : va_P D vwCl [(b, .inr (6, [.ref q_1, .ref q_3, .ref q_4, .ref q_5, .ref q_6, .ref q_7, .ref q_8, .int 0, .ref q_9, .int 0, .int 0, .null, .null, .int 0, .int 0, .int 0, .int 0])), (q_3, .inl (cA_3, 40000, .inl (fun _ => 0))), (q_4, .inl (cA_3, 1000, .inl (fun _ => 0))), (q_5, .inl (cA_3, 1000, .inl (fun _ => 0))), (q_6, .inl (cA_3, 1000, .inl (fun _ => 0))), (q_7, .inl (cA_3, 2048, .inl (fun _ => 0))), (q_8, .inl (cA_3, 40, .inl (fun _ => 0))), (q_9, .inr (9, [.ref q1_10, .ref q2_10, .ref q3_10, .int 0, .int 0, .int 0]))] H := hP
  have hD : va_D A [(b, .inr (6, [.ref q_1, .ref q_3, .ref q_4, .ref q_5, .ref q_6, .ref q_7, .ref q_8, .int 0, .ref q_9, .int 0, .int 0, .null, .null, .int 0, .int 0, .int 0, .int 0])), (q_3, .inl (cA_3, 40000, .inl (fun _ => 0))), (q_4, .inl (cA_3, 1000, .inl (fun _ => 0))), (q_5, .inl (cA_3, 1000, .inl (fun _ => 0))), (q_6, .inl (cA_3, 1000, .inl (fun _ => 0))), (q_7, .inl (cA_3, 2048, .inl (fun _ => 0))), (q_8, .inl (cA_3, 40, .inl (fun _ => 0))), (q_9, .inr (9, [.ref q1_10, .ref q2_10, .ref q3_10, .int 0, .int 0, .int 0]))] := hD
  refine lv_aload_n hx hb dX6_init_115 rfl (lv_at hl 0 rfl) ?_
  refine lv_iconst (v := (-1)) hx hb dX6_init_116 (by decide) ?_
  refine va_put (D := D) (ci := 6) (v := .int (-1)) (ty := .int) (C := RX6) (T := TX6) (N := 17) hx hb ht zinX6 tyX6 tyX6_ok nmX6 hown hK hP hD hS 0 rfl rfl 15 (by decide) (ht _ zw_308) (fun _ h9 => h9) rfl (by decide +kernel) rfl rfl (Nat.le_of_ble_eq_true rfl) dX6_init_117 (fun H locs hP hD hS => ?_)
  have hP : va_P D vwCl [(b, .inr (6, [.ref q_1, .ref q_3, .ref q_4, .ref q_5, .ref q_6, .ref q_7, .ref q_8, .int 0, .ref q_9, .int 0, .int 0, .null, .null, .int 0, .int 0, .int (-1), .int 0])), (q_3, .inl (cA_3, 40000, .inl (fun _ => 0))), (q_4, .inl (cA_3, 1000, .inl (fun _ => 0))), (q_5, .inl (cA_3, 1000, .inl (fun _ => 0))), (q_6, .inl (cA_3, 1000, .inl (fun _ => 0))), (q_7, .inl (cA_3, 2048, .inl (fun _ => 0))), (q_8, .inl (cA_3, 40, .inl (fun _ => 0))), (q_9, .inr (9, [.ref q1_10, .ref q2_10, .ref q3_10, .int 0, .int 0, .int 0]))] H := hP
  have hD : va_D A [(b, .inr (6, [.ref q_1, .ref q_3, .ref q_4, .ref q_5, .ref q_6, .ref q_7, .ref q_8, .int 0, .ref q_9, .int 0, .int 0, .null, .null, .int 0, .int 0, .int (-1), .int 0])), (q_3, .inl (cA_3, 40000, .inl (fun _ => 0))), (q_4, .inl (cA_3, 1000, .inl (fun _ => 0))), (q_5, .inl (cA_3, 1000, .inl (fun _ => 0))), (q_6, .inl (cA_3, 1000, .inl (fun _ => 0))), (q_7, .inl (cA_3, 2048, .inl (fun _ => 0))), (q_8, .inl (cA_3, 40, .inl (fun _ => 0))), (q_9, .inr (9, [.ref q1_10, .ref q2_10, .ref q3_10, .int 0, .int 0, .int 0]))] := hD
  refine lv_aload_n hx hb dX6_init_120 rfl (lv_at hl 0 rfl) ?_
  refine lv_iconst (v := 0) hx hb dX6_init_121 (by decide) ?_
  refine va_put (D := D) (ci := 6) (v := .int 0) (ty := .boolean) (C := RX6) (T := TX6) (N := 17) hx hb ht zinX6 tyX6 tyX6_ok nmX6 hown hK hP hD hS 0 rfl rfl 16 (by decide) (ht _ zw_309) (fun _ h9 => h9) rfl (by decide +kernel) rfl rfl (Nat.le_of_ble_eq_true rfl) dX6_init_122 (fun H locs hP hD hS => ?_)
  have hP : va_P D vwCl [(b, .inr (6, [.ref q_1, .ref q_3, .ref q_4, .ref q_5, .ref q_6, .ref q_7, .ref q_8, .int 0, .ref q_9, .int 0, .int 0, .null, .null, .int 0, .int 0, .int (-1), .int 0])), (q_3, .inl (cA_3, 40000, .inl (fun _ => 0))), (q_4, .inl (cA_3, 1000, .inl (fun _ => 0))), (q_5, .inl (cA_3, 1000, .inl (fun _ => 0))), (q_6, .inl (cA_3, 1000, .inl (fun _ => 0))), (q_7, .inl (cA_3, 2048, .inl (fun _ => 0))), (q_8, .inl (cA_3, 40, .inl (fun _ => 0))), (q_9, .inr (9, [.ref q1_10, .ref q2_10, .ref q3_10, .int 0, .int 0, .int 0]))] H := hP
  have hD : va_D A [(b, .inr (6, [.ref q_1, .ref q_3, .ref q_4, .ref q_5, .ref q_6, .ref q_7, .ref q_8, .int 0, .ref q_9, .int 0, .int 0, .null, .null, .int 0, .int 0, .int (-1), .int 0])), (q_3, .inl (cA_3, 40000, .inl (fun _ => 0))), (q_4, .inl (cA_3, 1000, .inl (fun _ => 0))), (q_5, .inl (cA_3, 1000, .inl (fun _ => 0))), (q_6, .inl (cA_3, 1000, .inl (fun _ => 0))), (q_7, .inl (cA_3, 2048, .inl (fun _ => 0))), (q_8, .inl (cA_3, 40, .inl (fun _ => 0))), (q_9, .inr (9, [.ref q1_10, .ref q2_10, .ref q3_10, .int 0, .int 0, .int 0]))] := hD
  have hP9 := hP.sub (ws' := []) [] rfl
  have hD9 := hD.sub (ws' := []) [] (by decide) rfl
  have hK9 := hK.sub (tys' := []) [] rfl
  refine W.widen (k := 13) (n := 45224) (Nat.le_of_ble_eq_true rfl) (Nat.le_of_ble_eq_true rfl) ?_
  exact W.vret hx hb hr (fun t ht0 hW => ⟨⟨(), rfl, trivial, zE_of hP9 hK9 hD9 ht0 hW⟩, hS.F ht0⟩) hS.2.2 dX6_init_125
set_option maxHeartbeats 4000000 in
set_option maxRecDepth 100000 in
theorem k_X5_init (l : Launch) (sz : Nat) (D : va_G) (b : Nat) : Met l yX5_init (.code yX5_init cX5_init 1 none :: zT) ({ frames := 1, cells := 5, slots := 8232, locals := 12 }) (va_Pc [.ref b] (zX zTab D [(b, .inr (5, [.null, .null, .null, .null, .null, .int 0, .int 0, .null, .null, .int 0]))] [] sz)) (va_Qv (fun (_ : Unit) => True) (fun _ t => ∃ (q1 : Nat) (q2 : Nat) (q3 : Nat) (q4 : Nat) (q5 : Nat) (cI : ClassId), zE D [(b, .inr (5, [.ref q1, .ref q2, .ref q3, .ref q4, .ref q5, .int (-1), .int 1, .null, .null, .int 0])), (q1, .inl (cI, 2048, .inl (fun _ => 0))), (q2, .inl (cI, 2048, .inl (fun _ => 0)))] [(cI, .int)] (va_A [(b, .inr (5, [.null, .null, .null, .null, .null, .int 0, .int 0, .null, .null, .int 0]))] sz) t) (va_A [(b, .inr (5, [.null, .null, .null, .null, .null, .int 0, .int 0, .null, .null, .int 0]))] sz)) 5 8232 (va_A [(b, .inr (5, [.null, .null, .null, .null, .null, .int 0, .int 0, .null, .null, .int 0]))] sz) := by
  refine Met.ofW (cc := cX5_init) (maxL := 1) (ret := none) (by decide) rfl ?_
  intro p e s m args below meth c s₁ B hml hv
  obtain ⟨rfl, hX, hsz, hP, hK, hD0⟩ := hv
  have hx := B.exec
  have hb := B.bytes
  have hr := B.returns
  have hts := atoms_spec (ws := (.code yX5_init cX5_init 1 none :: zT)) B.pre
  have ht : ∀ w ∈ zT, w.before _ s = true := fun w h => hts w (List.mem_cons_of_mem _ h)
  have hown : s.vm.findClass RX5 = some m.cls := findClass_of_methodNamed B.named
  have hlocks := B.notSynchronized
  have hin : meth.name = "<init>" := (name_of_methodNamed B.named B.method).1
  subst hsz
  have hD := hD0.self (sz := s.heap.size)
  generalize hAe : va_A [(b, .inr (5, [.null, .null, .null, .null, .null, .int 0, .int 0, .null, .null, .int 0]))] s.heap.size = A at hD ⊢
  have hA : ∀ q : Nat, s.heap.size ≤ q → A q := fun q h => by rw [← hAe]; exact Or.inr h
  have hS : va_S A s.heap s.heap [] := va_S.rf
  have hP : va_P D vwCl [(b, .inr (5, [.null, .null, .null, .null, .null, .int 0, .int 0, .null, .null, .int 0]))] s.heap := hP
  have hl := lv_entry ([.ref b]) (n := 1) (Nat.le_of_ble_eq_true rfl)
  rw [lg_entry_eq]
  generalize (lg_sl ([.ref b]) ++ List.replicate (1 - (lg_sl ([.ref b])).length) Slot.unset).toArray = ls at hl ⊢
  have hl : lv_has ls 1 [(0, .ref b)] := hl
  skip
  refine lv_aload_n hx hb dX5_init_0 rfl (lv_at hl 0 rfl) ?_
  refine W.objInit hx hb hown (ht _ zw_310) (ht _ zw_145) (ht _ zw_146) rfl (by rw [hml]; exact hl.1) rfl dX5_init_1 (Nat.le_of_ble_eq_true rfl) (Nat.le_of_ble_eq_true rfl) ?_
  refine W.eq (g2 := F0 m 4 ls []) rfl ?_
  refine lv_aload_n hx hb dX5_init_4 rfl (lv_at hl 0 rfl) ?_
  refine lv_sipush (v := 2048) hx hb dX5_init_5 (by decide) ?_
  refine va_newa (atype := .int) (a0 := (2048, .inl (fun _ => 0))) hx hb (ht _ zw_108) rfl hK hP hD hS hA (fun _ => rfl) (by decide) rfl (Nat.le_of_ble_eq_true rfl) (Nat.le_of_ble_eq_true rfl) (Nat.le_of_ble_eq_true rfl) dX5_init_8 (fun q_1 cA_1 H hK hP hD hS => ?_)
  have hP : va_P D vwCl [(b, .inr (5, [.null, .null, .null, .null, .null, .int 0, .int 0, .null, .null, .int 0])), (q_1, .inl (cA_1, 2048, .inl (fun _ => 0)))] H := hP
  have hD : va_D A [(b, .inr (5, [.null, .null, .null, .null, .null, .int 0, .int 0, .null, .null, .int 0])), (q_1, .inl (cA_1, 2048, .inl (fun _ => 0)))] := hD
  have hK : va_K D vwCl [(cA_1, .int)] s := hK
  refine W.widen (k := 1) (n := 2048) (Nat.le_of_ble_eq_true rfl) (Nat.le_of_ble_eq_true rfl) ?_
  refine va_putF (D := D) (ci := 5) (v := .ref q_1) (ty := .array .int) (C := RX5) (T := TX5) (N := 10) hx hb ht zinX5 tyX5 tyX5_ok nmX5 hown hK hP hD hS 0 rfl rfl 0 (by decide) (ht _ zw_321) (fun _ h9 => h9) rfl hin rfl (by decide +kernel) rfl rfl (Nat.le_of_ble_eq_true rfl) dX5_init_10 (fun H locs hP hD hS => ?_)
  have hP : va_P D vwCl [(b, .inr (5, [.ref q_1, .null, .null, .null, .null, .int 0, .int 0, .null, .null, .int 0])), (q_1, .inl (cA_1, 2048, .inl (fun _ => 0)))] H := hP
  have hD : va_D A [(b, .inr (5, [.ref q_1, .null, .null, .null, .null, .int 0, .int 0, .null, .null, .int 0])), (q_1, .inl (cA_1, 2048, .inl (fun _ => 0)))] := hD
  refine lv_aload_n hx hb dX5_init_13 rfl (lv_at hl 0 rfl) ?_
  refine lv_sipush (v := 2048) hx hb dX5_init_14 (by decide) ?_
  refine va_newa (atype := .int) (a0 := (2048, .inl (fun _ => 0))) hx hb (ht _ zw_108) rfl hK hP hD hS hA (fun _ => rfl) (by decide) rfl (Nat.le_of_ble_eq_true rfl) (Nat.le_of_ble_eq_true rfl) (Nat.le_of_ble_eq_true rfl) dX5_init_17 (fun q_2 cA_2 H hK hP hD hS => ?_)
  have hcc : cA_1 = cA_2 := za_same hK 0 1 rfl rfl
  subst hcc
  have hK := hK.sub (tys' := [(cA_1, .int)]) [0] rfl
  have hP : va_P D vwCl [(b, .inr (5, [.ref q_1, .null, .null, .null, .null, .int 0, .int 0, .null, .null, .int 0])), (q_1, .inl (cA_1, 2048, .inl (fun _ => 0))), (q_2, .inl (cA_1, 2048, .inl (fun _ => 0)))] H := hP
  have hD : va_D A [(b, .inr (5, [.ref q_1, .null, .null, .null, .null, .int 0, .int 0, .null, .null, .int 0])), (q_1, .inl (cA_1, 2048, .inl (fun _ => 0))), (q_2, .inl (cA_1, 2048, .inl (fun _ => 0)))] := hD
  have hK : va_K D vwCl [(cA_1, .int)] s := hK
  refine W.widen (k := 2) (n := 4096) (Nat.le_of_ble_eq_true rfl) (Nat.le_of_ble_eq_true rfl) ?_
  refine va_putF (D := D) (ci := 5) (v := .ref q_2) (ty := .array .int) (C := RX5) (T := TX5) (N := 10) hx hb ht zinX5 tyX5 tyX5_ok nmX5 hown hK hP hD hS 0 rfl rfl 1 (by decide) (ht _ zw_322) (fun _ h9 => h9) rfl hin rfl (by decide +kernel) rfl rfl (Nat.le_of_ble_eq_true rfl) dX5_init_19 (fun H locs hP hD hS => ?_)
  have hP : va_P D vwCl [(b, .inr (5, [.ref q_1, .ref q_2, .null, .null, .null, .int 0, .int 0, .null, .null, .int 0])), (q_1, .inl (cA_1, 2048, .inl (fun _ => 0))), (q_2, .inl (cA_1, 2048, .inl (fun _ => 0)))] H := hP
  have hD : va_D A [(b, .inr (5, [.ref q_1, .ref q_2, .null, .null, .null, .int 0, .int 0, .null, .null, .int 0])), (q_1, .inl (cA_1, 2048, .inl (fun _ => 0))), (q_2, .inl (cA_1, 2048, .inl (fun _ => 0)))] := hD
  refine lv_aload_n hx hb dX5_init_22 rfl (lv_at hl 0 rfl) ?_
  refine lv_sipush (v := 2048) hx hb dX5_init_23 (by decide) ?_
  refine va_newa (atype := .int) (a0 := (2048, .inl (fun _ => 0))) hx hb (ht _ zw_108) rfl hK hP hD hS hA (fun _ => rfl) (by decide) rfl (Nat.le_of_ble_eq_true rfl) (Nat.le_of_ble_eq_true rfl) (Nat.le_of_ble_eq_true rfl) dX5_init_26 (fun q_3 cA_3 H hK hP hD hS => ?_)
  have hcc : cA_1 = cA_3 := za_same hK 0 1 rfl rfl
  subst hcc
  have hK := hK.sub (tys' := [(cA_1, .int)]) [0] rfl
  have hP : va_P D vwCl [(b, .inr (5, [.ref q_1, .ref q_2, .null, .null, .null, .int 0, .int 0, .null, .null, .int 0])), (q_1, .inl (cA_1, 2048, .inl (fun _ => 0))), (q_2, .inl (cA_1, 2048, .inl (fun _ => 0))), (q_3, .inl (cA_1, 2048, .inl (fun _ => 0)))] H := hP
  have hD : va_D A [(b, .inr (5, [.ref q_1, .ref q_2, .null, .null, .null, .int 0, .int 0, .null, .null, .int 0])), (q_1, .inl (cA_1, 2048, .inl (fun _ => 0))), (q_2, .inl (cA_1, 2048, .inl (fun _ => 0))), (q_3, .inl (cA_1, 2048, .inl (fun _ => 0)))] := hD
  have hK : va_K D vwCl [(cA_1, .int)] s := hK
  refine W.widen (k := 3) (n := 6144) (Nat.le_of_ble_eq_true rfl) (Nat.le_of_ble_eq_true rfl) ?_
  refine va_putF (D := D) (ci := 5) (v := .ref q_3) (ty := .array .int) (C := RX5) (T := TX5) (N := 10) hx hb ht zinX5 tyX5 tyX5_ok nmX5 hown hK hP hD hS 0 rfl rfl 2 (by decide) (ht _ zw_323) (fun _ h9 => h9) rfl hin rfl (by decide +kernel) rfl rfl (Nat.le_of_ble_eq_true rfl) dX5_init_28 (fun H locs hP hD hS => ?_)
  have hP : va_P D vwCl [(b, .inr (5, [.ref q_1, .ref q_2, .ref q_3, .null, .null, .int 0, .int 0, .null, .null, .int 0])), (q_1, .inl (cA_1, 2048, .inl (fun _ => 0))), (q_2, .inl (cA_1, 2048, .inl (fun _ => 0))), (q_3, .inl (cA_1, 2048, .inl (fun _ => 0)))] H := hP
  have hD : va_D A [(b, .inr (5, [.ref q_1, .ref q_2, .ref q_3, .null, .null, .int 0, .int 0, .null, .null, .int 0])), (q_1, .inl (cA_1, 2048, .inl (fun _ => 0))), (q_2, .inl (cA_1, 2048, .inl (fun _ => 0))), (q_3, .inl (cA_1, 2048, .inl (fun _ => 0)))] := hD
  refine lv_aload_n hx hb dX5_init_31 rfl (lv_at hl 0 rfl) ?_
  refine lv_sipush (v := 2048) hx hb dX5_init_32 (by decide) ?_
  refine va_newa (atype := .int) (a0 := (2048, .inl (fun _ => 0))) hx hb (ht _ zw_108) rfl hK hP hD hS hA (fun _ => rfl) (by decide) rfl (Nat.le_of_ble_eq_true rfl) (Nat.le_of_ble_eq_true rfl) (Nat.le_of_ble_eq_true rfl) dX5_init_35 (fun q_4 cA_4 H hK hP hD hS => ?_)
  have hcc : cA_1 = cA_4 := za_same hK 0 1 rfl rfl
  subst hcc
  have hK := hK.sub (tys' := [(cA_1, .int)]) [0] rfl
  have hP : va_P D vwCl [(b, .inr (5, [.ref q_1, .ref q_2, .ref q_3, .null, .null, .int 0, .int 0, .null, .null, .int 0])), (q_1, .inl (cA_1, 2048, .inl (fun _ => 0))), (q_2, .inl (cA_1, 2048, .inl (fun _ => 0))), (q_3, .inl (cA_1, 2048, .inl (fun _ => 0))), (q_4, .inl (cA_1, 2048, .inl (fun _ => 0)))] H := hP
  have hD : va_D A [(b, .inr (5, [.ref q_1, .ref q_2, .ref q_3, .null, .null, .int 0, .int 0, .null, .null, .int 0])), (q_1, .inl (cA_1, 2048, .inl (fun _ => 0))), (q_2, .inl (cA_1, 2048, .inl (fun _ => 0))), (q_3, .inl (cA_1, 2048, .inl (fun _ => 0))), (q_4, .inl (cA_1, 2048, .inl (fun _ => 0)))] := hD
  have hK : va_K D vwCl [(cA_1, .int)] s := hK
  refine W.widen (k := 4) (n := 8192) (Nat.le_of_ble_eq_true rfl) (Nat.le_of_ble_eq_true rfl) ?_
  refine va_putF (D := D) (ci := 5) (v := .ref q_4) (ty := .array .int) (C := RX5) (T := TX5) (N := 10) hx hb ht zinX5 tyX5 tyX5_ok nmX5 hown hK hP hD hS 0 rfl rfl 3 (by decide) (ht _ zw_324) (fun _ h9 => h9) rfl hin rfl (by decide +kernel) rfl rfl (Nat.le_of_ble_eq_true rfl) dX5_init_37 (fun H locs hP hD hS => ?_)
  have hP : va_P D vwCl [(b, .inr (5, [.ref q_1, .ref q_2, .ref q_3, .ref q_4, .null, .int 0, .int 0, .null, .null, .int 0])), (q_1, .inl (cA_1, 2048, .inl (fun _ => 0))), (q_2, .inl (cA_1, 2048, .inl (fun _ => 0))), (q_3, .inl (cA_1, 2048, .inl (fun _ => 0))), (q_4, .inl (cA_1, 2048, .inl (fun _ => 0)))] H := hP
  have hD : va_D A [(b, .inr (5, [.ref q_1, .ref q_2, .ref q_3, .ref q_4, .null, .int 0, .int 0, .null, .null, .int 0])), (q_1, .inl (cA_1, 2048, .inl (fun _ => 0))), (q_2, .inl (cA_1, 2048, .inl (fun _ => 0))), (q_3, .inl (cA_1, 2048, .inl (fun _ => 0))), (q_4, .inl (cA_1, 2048, .inl (fun _ => 0)))] := hD
  refine lv_aload_n hx hb dX5_init_40 rfl (lv_at hl 0 rfl) ?_
  refine lv_bipush (v := 40) hx hb dX5_init_41 (by decide) ?_
  refine va_newa (atype := .int) (a0 := (40, .inl (fun _ => 0))) hx hb (ht _ zw_108) rfl hK hP hD hS hA (fun _ => rfl) (by decide) rfl (Nat.le_of_ble_eq_true rfl) (Nat.le_of_ble_eq_true rfl) (Nat.le_of_ble_eq_true rfl) dX5_init_43 (fun q_5 cA_5 H hK hP hD hS => ?_)
  have hcc : cA_1 = cA_5 := za_same hK 0 1 rfl rfl
  subst hcc
  have hK := hK.sub (tys' := [(cA_1, .int)]) [0] rfl
  have hP : va_P D vwCl [(b, .inr (5, [.ref q_1, .ref q_2, .ref q_3, .ref q_4, .null, .int 0, .int 0, .null, .null, .int 0])), (q_1, .inl (cA_1, 2048, .inl (fun _ => 0))), (q_2, .inl (cA_1, 2048, .inl (fun _ => 0))), (q_3, .inl (cA_1, 2048, .inl (fun _ => 0))), (q_4, .inl (cA_1, 2048, .inl (fun _ => 0))), (q_5, .inl (cA_1, 40, .inl (fun _ => 0)))] H := hP
  have hD : va_D A [(b, .inr (5, [.ref q_1, .ref q_2, .ref q_3, .ref q_4, .null, .int 0, .int 0, .null, .null, .int 0])), (q_1, .inl (cA_1, 2048, .inl (fun _ => 0))), (q_2, .inl (cA_1, 2048, .inl (fun _ => 0))), (q_3, .inl (cA_1, 2048, .inl (fun _ => 0))), (q_4, .inl (cA_1, 2048, .inl (fun _ => 0))), (q_5, .inl (cA_1, 40, .inl (fun _ => 0)))] := hD
  have hK : va_K D vwCl [(cA_1, .int)] s := hK
  refine W.widen (k := 5) (n := 8232) (Nat.le_of_ble_eq_true rfl) (Nat.le_of_ble_eq_true rfl) ?_
  refine va_putF (D := D) (ci := 5) (v := .ref q_5) (ty := .array .int) (C := RX5) (T := TX5) (N := 10) hx hb ht zinX5 tyX5 tyX5_ok nmX5 hown hK hP hD hS 0 rfl rfl 4 (by decide) (ht _ zw_325) (fun _ h9 => h9) rfl hin rfl (by decide +kernel) rfl rfl (Nat.le_of_ble_eq_true rfl) dX5_init_45 (fun H locs hP hD hS => ?_)
  have hP : va_P D vwCl [(b, .inr (5, [.ref q_1, .ref q_2, .ref q_3, .ref q_4, .ref q_5, .int 0, .int 0, .null, .null, .int 0])), (q_1, .inl (cA_1, 2048, .inl (fun _ => 0))), (q_2, .inl (cA_1, 2048, .inl (fun _ => 0))), (q_3, .inl (cA_1, 2048, .inl (fun _ => 0))), (q_4, .inl (cA_1, 2048, .inl (fun _ => 0))), (q_5, .inl (cA_1, 40, .inl (fun _ => 0)))] H := hP
  have hD : va_D A [(b, .inr (5, [.ref q_1, .ref q_2, .ref q_3, .ref q_4, .ref q_5, .int 0, .int 0, .null, .null, .int 0])), (q_1, .inl (cA_1, 2048, .inl (fun _ => 0))), (q_2, .inl (cA_1, 2048, .inl (fun _ => 0))), (q_3, .inl (cA_1, 2048, .inl (fun _ => 0))), (q_4, .inl (cA_1, 2048, .inl (fun _ => 0))), (q_5, .inl (cA_1, 40, .inl (fun _ => 0)))] := hD
  refine lv_aload_n hx hb dX5_init_48 rfl (lv_at hl 0 rfl) ?_
  refine lv_iconst (v := (-1)) hx hb dX5_init_49 (by decide) ?_
  refine va_put (D := D) (ci := 5) (v := .int (-1)) (ty := .int) (C := RX5) (T := TX5) (N := 10) hx hb ht zinX5 tyX5 tyX5_ok nmX5 hown hK hP hD hS 0 rfl rfl 5 (by decide) (ht _ zw_326) (fun _ h9 => h9) rfl (by decide +kernel) rfl rfl (Nat.le_of_ble_eq_true rfl) dX5_init_50 (fun H locs hP hD hS => ?_)
  have hP : va_P D vwCl [(b, .inr (5, [.ref q_1, .ref q_2, .ref q_3, .ref q_4, .ref q_5, .int (-1), .int 0, .null, .null, .int 0])), (q_1, .inl (cA_1, 2048, .inl (fun _ => 0))), (q_2, .inl (cA_1, 2048, .inl (fun _ => 0))), (q_3, .inl (cA_1, 2048, .inl (fun _ => 0))), (q_4, .inl (cA_1, 2048, .inl (fun _ => 0))), (q_5, .inl (cA_1, 40, .inl (fun _ => 0)))] H := hP
  have hD : va_D A [(b, .inr (5, [.ref q_1, .ref q_2, .ref q_3, .ref q_4, .ref q_5, .int (-1), .int 0, .null, .null, .int 0])), (q_1, .inl (cA_1, 2048, .inl (fun _ => 0))), (q_2, .inl (cA_1, 2048, .inl (fun _ => 0))), (q_3, .inl (cA_1, 2048, .inl (fun _ => 0))), (q_4, .inl (cA_1, 2048, .inl (fun _ => 0))), (q_5, .inl (cA_1, 40, .inl (fun _ => 0)))] := hD
  refine lv_aload_n hx hb dX5_init_53 rfl (lv_at hl 0 rfl) ?_
  refine lv_iconst (v := 1) hx hb dX5_init_54 (by decide) ?_
  refine va_put (D := D) (ci := 5) (v := .int 1) (ty := .int) (C := RX5) (T := TX5) (N := 10) hx hb ht zinX5 tyX5 tyX5_ok nmX5 hown hK hP hD hS 0 rfl rfl 6 (by decide) (ht _ zw_327) (fun _ h9 => h9) rfl (by decide +kernel) rfl rfl (Nat.le_of_ble_eq_true rfl) dX5_init_55 (fun H locs hP hD hS => ?_)
  have hP : va_P D vwCl [(b, .inr (5, [.ref q_1, .ref q_2, .ref q_3, .ref q_4, .ref q_5, .int (-1), .int 1, .null, .null, .int 0])), (q_1, .inl (cA_1, 2048, .inl (fun _ => 0))), (q_2, .inl (cA_1, 2048, .inl (fun _ => 0))), (q_3, .inl (cA_1, 2048, .inl (fun _ => 0))), (q_4, .inl (cA_1, 2048, .inl (fun _ => 0))), (q_5, .inl (cA_1, 40, .inl (fun _ => 0)))] H := hP
  have hD : va_D A [(b, .inr (5, [.ref q_1, .ref q_2, .ref q_3, .ref q_4, .ref q_5, .int (-1), .int 1, .null, .null, .int 0])), (q_1, .inl (cA_1, 2048, .inl (fun _ => 0))), (q_2, .inl (cA_1, 2048, .inl (fun _ => 0))), (q_3, .inl (cA_1, 2048, .inl (fun _ => 0))), (q_4, .inl (cA_1, 2048, .inl (fun _ => 0))), (q_5, .inl (cA_1, 40, .inl (fun _ => 0)))] := hD
  refine lv_aload_n hx hb dX5_init_58 rfl (lv_at hl 0 rfl) ?_
  refine lv_null hx hb dX5_init_59 ?_
  refine va_put (D := D) (ci := 5) (v := .null) (ty := .object "Chainwork$Law") (C := RX5) (T := TX5) (N := 10) hx hb ht zinX5 tyX5 tyX5_ok nmX5 hown hK hP hD hS 0 rfl rfl 7 (by decide) (ht _ zw_328) (fun _ h9 => h9) rfl (by decide +kernel) rfl rfl (Nat.le_of_ble_eq_true rfl) dX5_init_60 (fun H locs hP hD hS => ?_)
  have hP : va_P D vwCl [(b, .inr (5, [.ref q_1, .ref q_2, .ref q_3, .ref q_4, .ref q_5, .int (-1), .int 1, .null, .null, .int 0])), (q_1, .inl (cA_1, 2048, .inl (fun _ => 0))), (q_2, .inl (cA_1, 2048, .inl (fun _ => 0))), (q_3, .inl (cA_1, 2048, .inl (fun _ => 0))), (q_4, .inl (cA_1, 2048, .inl (fun _ => 0))), (q_5, .inl (cA_1, 40, .inl (fun _ => 0)))] H := hP
  have hD : va_D A [(b, .inr (5, [.ref q_1, .ref q_2, .ref q_3, .ref q_4, .ref q_5, .int (-1), .int 1, .null, .null, .int 0])), (q_1, .inl (cA_1, 2048, .inl (fun _ => 0))), (q_2, .inl (cA_1, 2048, .inl (fun _ => 0))), (q_3, .inl (cA_1, 2048, .inl (fun _ => 0))), (q_4, .inl (cA_1, 2048, .inl (fun _ => 0))), (q_5, .inl (cA_1, 40, .inl (fun _ => 0)))] := hD
  refine lv_aload_n hx hb dX5_init_63 rfl (lv_at hl 0 rfl) ?_
  refine lv_null hx hb dX5_init_64 ?_
  refine va_put (D := D) (ci := 5) (v := .null) (ty := .object "Chainwork$Law") (C := RX5) (T := TX5) (N := 10) hx hb ht zinX5 tyX5 tyX5_ok nmX5 hown hK hP hD hS 0 rfl rfl 8 (by decide) (ht _ zw_329) (fun _ h9 => h9) rfl (by decide +kernel) rfl rfl (Nat.le_of_ble_eq_true rfl) dX5_init_65 (fun H locs hP hD hS => ?_)
  have hP : va_P D vwCl [(b, .inr (5, [.ref q_1, .ref q_2, .ref q_3, .ref q_4, .ref q_5, .int (-1), .int 1, .null, .null, .int 0])), (q_1, .inl (cA_1, 2048, .inl (fun _ => 0))), (q_2, .inl (cA_1, 2048, .inl (fun _ => 0))), (q_3, .inl (cA_1, 2048, .inl (fun _ => 0))), (q_4, .inl (cA_1, 2048, .inl (fun _ => 0))), (q_5, .inl (cA_1, 40, .inl (fun _ => 0)))] H := hP
  have hD : va_D A [(b, .inr (5, [.ref q_1, .ref q_2, .ref q_3, .ref q_4, .ref q_5, .int (-1), .int 1, .null, .null, .int 0])), (q_1, .inl (cA_1, 2048, .inl (fun _ => 0))), (q_2, .inl (cA_1, 2048, .inl (fun _ => 0))), (q_3, .inl (cA_1, 2048, .inl (fun _ => 0))), (q_4, .inl (cA_1, 2048, .inl (fun _ => 0))), (q_5, .inl (cA_1, 40, .inl (fun _ => 0)))] := hD
  refine lv_aload_n hx hb dX5_init_68 rfl (lv_at hl 0 rfl) ?_
  refine lv_iconst (v := 0) hx hb dX5_init_69 (by decide) ?_
  refine va_put (D := D) (ci := 5) (v := .int 0) (ty := .int) (C := RX5) (T := TX5) (N := 10) hx hb ht zinX5 tyX5 tyX5_ok nmX5 hown hK hP hD hS 0 rfl rfl 9 (by decide) (ht _ zw_330) (fun _ h9 => h9) rfl (by decide +kernel) rfl rfl (Nat.le_of_ble_eq_true rfl) dX5_init_70 (fun H locs hP hD hS => ?_)
  have hP : va_P D vwCl [(b, .inr (5, [.ref q_1, .ref q_2, .ref q_3, .ref q_4, .ref q_5, .int (-1), .int 1, .null, .null, .int 0])), (q_1, .inl (cA_1, 2048, .inl (fun _ => 0))), (q_2, .inl (cA_1, 2048, .inl (fun _ => 0))), (q_3, .inl (cA_1, 2048, .inl (fun _ => 0))), (q_4, .inl (cA_1, 2048, .inl (fun _ => 0))), (q_5, .inl (cA_1, 40, .inl (fun _ => 0)))] H := hP
  have hD : va_D A [(b, .inr (5, [.ref q_1, .ref q_2, .ref q_3, .ref q_4, .ref q_5, .int (-1), .int 1, .null, .null, .int 0])), (q_1, .inl (cA_1, 2048, .inl (fun _ => 0))), (q_2, .inl (cA_1, 2048, .inl (fun _ => 0))), (q_3, .inl (cA_1, 2048, .inl (fun _ => 0))), (q_4, .inl (cA_1, 2048, .inl (fun _ => 0))), (q_5, .inl (cA_1, 40, .inl (fun _ => 0)))] := hD
  have hP9 := hP.sub (ws' := [(b, .inr (5, [.ref q_1, .ref q_2, .ref q_3, .ref q_4, .ref q_5, .int (-1), .int 1, .null, .null, .int 0])), (q_1, .inl (cA_1, 2048, .inl (fun _ => 0))), (q_2, .inl (cA_1, 2048, .inl (fun _ => 0)))]) [0, 1, 2] rfl
  have hD9 := hD.sub (ws' := [(b, .inr (5, [.ref q_1, .ref q_2, .ref q_3, .ref q_4, .ref q_5, .int (-1), .int 1, .null, .null, .int 0])), (q_1, .inl (cA_1, 2048, .inl (fun _ => 0))), (q_2, .inl (cA_1, 2048, .inl (fun _ => 0)))]) [0, 1, 2] (by decide) rfl
  have hK9 := hK.sub (tys' := [(cA_1, .int)]) [0] rfl
  refine W.widen (k := 5) (n := 8232) (Nat.le_of_ble_eq_true rfl) (Nat.le_of_ble_eq_true rfl) ?_
  exact W.vret hx hb hr (fun t ht0 hW => ⟨⟨(), rfl, trivial, q_1, q_2, q_3, q_4, q_5, cA_1, zE_of hP9 hK9 hD9 ht0 hW⟩, hS.F ht0⟩) hS.2.2 dX5_init_73
