theorem dX12_isFull_13 : decode cX12_isFull 13 = .ok (.iconst 1, 1) := by decide +kernel
theorem dX12_isFull_14 : decode cX12_isFull 14 = .ok (.goto 4, 3) := by decide +kernel
abbrev cX12_fullOnes : ByteArray := prog_14_method_52_code
def yX12_fullOnes : MethodName := ⟨RX12, "fullOnes", "()I"⟩
theorem dX12_fullOnes_0 : decode cX12_fullOnes 0 = .ok (.iconst 0, 1) := by decide +kernel
theorem dX12_fullOnes_1 : decode cX12_fullOnes 1 = .ok (.istore_n 1, 1) := by decide +kernel
theorem dX12_fullOnes_2 : decode cX12_fullOnes 2 = .ok (.iconst 0, 1) := by decide +kernel
theorem dX12_fullOnes_3 : decode cX12_fullOnes 3 = .ok (.istore_n 2, 1) := by decide +kernel
theorem dX12_fullOnes_4 : decode cX12_fullOnes 4 = .ok (.iload_n 2, 1) := by decide +kernel
theorem dX12_fullOnes_5 : decode cX12_fullOnes 5 = .ok (.bipush 10, 2) := by decide +kernel
theorem dX12_fullOnes_7 : decode cX12_fullOnes 7 = .ok (.if_icmp .ge 25, 3) := by decide +kernel
theorem dX12_fullOnes_32 : decode cX12_fullOnes 32 = .ok (.iload_n 1, 1) := by decide +kernel
theorem dX12_fullOnes_33 : decode cX12_fullOnes 33 = .ok (.ireturn, 1) := by decide +kernel
theorem dX12_fullOnes_10 : decode cX12_fullOnes 10 = .ok (.iload_n 1, 1) := by decide +kernel
theorem dX12_fullOnes_11 : decode cX12_fullOnes 11 = .ok (.aload_n 0, 1) := by decide +kernel
theorem dX12_fullOnes_12 : decode cX12_fullOnes 12 = .ok (.iload_n 2, 1) := by decide +kernel
theorem dX12_fullOnes_13 : decode cX12_fullOnes 13 = .ok (.invokevirtual 222, 3) := by decide +kernel
theorem dX12_fullOnes_16 : decode cX12_fullOnes 16 = .ok (.ifCond .eq 7, 3) := by decide +kernel
theorem dX12_fullOnes_19 : decode cX12_fullOnes 19 = .ok (.iconst 1, 1) := by decide +kernel
theorem dX12_fullOnes_20 : decode cX12_fullOnes 20 = .ok (.goto 4, 3) := by decide +kernel
theorem dX12_fullOnes_24 : decode cX12_fullOnes 24 = .ok (.iadd, 1) := by decide +kernel
theorem dX12_fullOnes_25 : decode cX12_fullOnes 25 = .ok (.istore_n 1, 1) := by decide +kernel
theorem dX12_fullOnes_26 : decode cX12_fullOnes 26 = .ok (.iinc 2 1, 3) := by decide +kernel
theorem dX12_fullOnes_29 : decode cX12_fullOnes 29 = .ok (.goto (-25), 3) := by decide +kernel
theorem dX12_fullOnes_23 : decode cX12_fullOnes 23 = .ok (.iconst 0, 1) := by decide +kernel
abbrev cX12_variable : ByteArray := prog_14_method_53_code
def yX12_variable : MethodName := ⟨RX12, "variable", "(II)I"⟩
theorem dX12_variable_0 : decode cX12_variable 0 = .ok (.aload_n 0, 1) := by decide +kernel
theorem dX12_variable_1 : decode cX12_variable 1 = .ok (.iload_n 1, 1) := by decide +kernel
theorem dX12_variable_2 : decode cX12_variable 2 = .ok (.invokestatic 225, 3) := by decide +kernel
theorem dX12_variable_5 : decode cX12_variable 5 = .ok (.invokevirtual 215, 3) := by decide +kernel
theorem dX12_variable_8 : decode cX12_variable 8 = .ok (.ifCond .ne 17, 3) := by decide +kernel
theorem dX12_variable_11 : decode cX12_variable 11 = .ok (.aload_n 0, 1) := by decide +kernel
theorem dX12_variable_12 : decode cX12_variable 12 = .ok (.iload_n 2, 1) := by decide +kernel
theorem dX12_variable_13 : decode cX12_variable 13 = .ok (.iconst 0, 1) := by decide +kernel
theorem dX12_variable_14 : decode cX12_variable 14 = .ok (.iconst 3, 1) := by decide +kernel
theorem dX12_variable_15 : decode cX12_variable 15 = .ok (.invokestatic 60, 3) := by decide +kernel
theorem dX12_variable_18 : decode cX12_variable 18 = .ok (.iconst 2, 1) := by decide +kernel
theorem dX12_variable_19 : decode cX12_variable 19 = .ok (.invokevirtual 56, 3) := by decide +kernel
theorem dX12_variable_22 : decode cX12_variable 22 = .ok (.ifCond .eq 5, 3) := by decide +kernel
theorem dX12_variable_27 : decode cX12_variable 27 = .ok (.aload_n 0, 1) := by decide +kernel
theorem dX12_variable_28 : decode cX12_variable 28 = .ok (.invokevirtual 219, 3) := by decide +kernel
theorem dX12_variable_31 : decode cX12_variable 31 = .ok (.aload_n 0, 1) := by decide +kernel
theorem dX12_variable_32 : decode cX12_variable 32 = .ok (.getfield 9, 3) := by decide +kernel
theorem dX12_variable_35 : decode cX12_variable 35 = .ok (.aload_n 0, 1) := by decide +kernel
theorem dX12_variable_36 : decode cX12_variable 36 = .ok (.iload_n 1, 1) := by decide +kernel
theorem dX12_variable_37 : decode cX12_variable 37 = .ok (.invokevirtual 64, 3) := by decide +kernel
theorem dX12_variable_40 : decode cX12_variable 40 = .ok (.iconst 1, 1) := by decide +kernel
theorem dX12_variable_41 : decode cX12_variable 41 = .ok (.iastore, 1) := by decide +kernel
theorem dX12_variable_42 : decode cX12_variable 42 = .ok (.aload_n 0, 1) := by decide +kernel
theorem dX12_variable_43 : decode cX12_variable 43 = .ok (.getfield 9, 3) := by decide +kernel
theorem dX12_variable_46 : decode cX12_variable 46 = .ok (.aload_n 0, 1) := by decide +kernel
theorem dX12_variable_47 : decode cX12_variable 47 = .ok (.iload_n 1, 1) := by decide +kernel
theorem dX12_variable_48 : decode cX12_variable 48 = .ok (.invokevirtual 64, 3) := by decide +kernel
theorem dX12_variable_51 : decode cX12_variable 51 = .ok (.iconst 1, 1) := by decide +kernel
theorem dX12_variable_52 : decode cX12_variable 52 = .ok (.iadd, 1) := by decide +kernel
theorem dX12_variable_53 : decode cX12_variable 53 = .ok (.iload_n 2, 1) := by decide +kernel
theorem dX12_variable_54 : decode cX12_variable 54 = .ok (.iastore, 1) := by decide +kernel
theorem dX12_variable_55 : decode cX12_variable 55 = .ok (.aload_n 0, 1) := by decide +kernel
theorem zw_133 : Cond.methodLink RX12 228 yX12_fullOnes ∈ zT := zT_of 1599 (by decide +kernel) (by decide +kernel)
theorem zw_134 : Cond.instanceMethod yX12_fullOnes ∈ zT := zT_of 1601 (by decide +kernel) (by decide +kernel)
theorem zw_135 : Cond.selects RX12 yX12_fullOnes yX12_fullOnes ∈ zT := zT_ofS 40 (by decide +kernel) (by decide +kernel)
theorem zw_136 : Cond.code yX12_fullOnes cX12_fullOnes 3 (some .int) ∈ zT := zT_of 1602 (by decide +kernel) (by decide +kernel)
theorem dX12_variable_56 : decode cX12_variable 56 = .ok (.invokevirtual 228, 3) := by decide +kernel
theorem dX12_variable_59 : decode cX12_variable 59 = .ok (.ireturn, 1) := by decide +kernel
theorem dX12_variable_25 : decode cX12_variable 25 = .ok (.iconst 0, 1) := by decide +kernel
theorem dX12_variable_26 : decode cX12_variable 26 = .ok (.ireturn, 1) := by decide +kernel
abbrev cX12_areOpenHeld : ByteArray := prog_14_method_133_code
def yX12_areOpenHeld : MethodName := ⟨RX12, "areOpenHeld", "(I)Z"⟩
theorem dX12_areOpenHeld_0 : decode cX12_areOpenHeld 0 = .ok (.iconst 1, 1) := by decide +kernel
theorem dX12_areOpenHeld_1 : decode cX12_areOpenHeld 1 = .ok (.istore_n 2, 1) := by decide +kernel
theorem dX12_areOpenHeld_2 : decode cX12_areOpenHeld 2 = .ok (.iconst 0, 1) := by decide +kernel
theorem dX12_areOpenHeld_3 : decode cX12_areOpenHeld 3 = .ok (.istore_n 3, 1) := by decide +kernel
theorem dX12_areOpenHeld_4 : decode cX12_areOpenHeld 4 = .ok (.iload_n 3, 1) := by decide +kernel
theorem dX12_areOpenHeld_5 : decode cX12_areOpenHeld 5 = .ok (.aload_n 0, 1) := by decide +kernel
theorem dX12_areOpenHeld_6 : decode cX12_areOpenHeld 6 = .ok (.invokevirtual 135, 3) := by decide +kernel
theorem dX12_areOpenHeld_9 : decode cX12_areOpenHeld 9 = .ok (.if_icmp .ge 44, 3) := by decide +kernel
theorem dX12_areOpenHeld_53 : decode cX12_areOpenHeld 53 = .ok (.iload_n 2, 1) := by decide +kernel
theorem dX12_areOpenHeld_54 : decode cX12_areOpenHeld 54 = .ok (.ireturn, 1) := by decide +kernel
abbrev cX12_errors : ByteArray := prog_14_method_135_code
def yX12_errors : MethodName := ⟨RX12, "errors", "()I"⟩
theorem dX12_errors_0 : decode cX12_errors 0 = .ok (.aload_n 0, 1) := by decide +kernel
theorem dX12_errors_1 : decode cX12_errors 1 = .ok (.iconst 0, 1) := by decide +kernel
theorem dX12_errors_2 : decode cX12_errors 2 = .ok (.putfield 52, 3) := by decide +kernel
theorem dX12_errors_5 : decode cX12_errors 5 = .ok (.bipush 20, 2) := by decide +kernel
theorem zw_137 : Cond.arrayClass .boolean ∈ zT := zT_of 164 (by decide +kernel) (by decide +kernel)
theorem dX12_errors_7 : decode cX12_errors 7 = .ok (.newarray .boolean, 2) := by decide +kernel
theorem dX12_errors_9 : decode cX12_errors 9 = .ok (.astore_n 1, 1) := by decide +kernel
theorem dX12_errors_10 : decode cX12_errors 10 = .ok (.iconst 4, 1) := by decide +kernel
theorem dX12_errors_11 : decode cX12_errors 11 = .ok (.newarray .boolean, 2) := by decide +kernel
theorem dX12_errors_13 : decode cX12_errors 13 = .ok (.astore_n 2, 1) := by decide +kernel
theorem dX12_errors_14 : decode cX12_errors 14 = .ok (.iconst 4, 1) := by decide +kernel
theorem dX12_errors_15 : decode cX12_errors 15 = .ok (.newarray .int, 2) := by decide +kernel
theorem dX12_errors_17 : decode cX12_errors 17 = .ok (.astore_n 3, 1) := by decide +kernel
theorem dX12_errors_18 : decode cX12_errors 18 = .ok (.iconst 0, 1) := by decide +kernel
theorem dX12_errors_19 : decode cX12_errors 19 = .ok (.istore 4, 2) := by decide +kernel
theorem dX12_errors_21 : decode cX12_errors 21 = .ok (.iload 4, 2) := by decide +kernel
theorem dX12_errors_23 : decode cX12_errors 23 = .ok (.iconst 4, 1) := by decide +kernel
theorem dX12_errors_24 : decode cX12_errors 24 = .ok (.if_icmp .ge 23, 3) := by decide +kernel
theorem dX12_errors_27 : decode cX12_errors 27 = .ok (.aload_n 3, 1) := by decide +kernel
theorem dX12_errors_28 : decode cX12_errors 28 = .ok (.iload 4, 2) := by decide +kernel
theorem dX12_errors_30 : decode cX12_errors 30 = .ok (.aload_n 0, 1) := by decide +kernel
theorem dX12_errors_31 : decode cX12_errors 31 = .ok (.iload 4, 2) := by decide +kernel
theorem dX12_errors_33 : decode cX12_errors 33 = .ok (.aload_n 0, 1) := by decide +kernel
theorem dX12_errors_34 : decode cX12_errors 34 = .ok (.invokevirtual 288, 3) := by decide +kernel
theorem dX12_errors_37 : decode cX12_errors 37 = .ok (.invokevirtual 258, 3) := by decide +kernel
theorem dX12_errors_40 : decode cX12_errors 40 = .ok (.iastore, 1) := by decide +kernel
theorem dX12_errors_41 : decode cX12_errors 41 = .ok (.iinc 4 1, 3) := by decide +kernel
theorem dX12_errors_44 : decode cX12_errors 44 = .ok (.goto (-23), 3) := by decide +kernel
theorem dX12_errors_47 : decode cX12_errors 47 = .ok (.iconst 0, 1) := by decide +kernel
theorem dX12_errors_48 : decode cX12_errors 48 = .ok (.istore 4, 2) := by decide +kernel
theorem dX12_errors_50 : decode cX12_errors 50 = .ok (.iload 4, 2) := by decide +kernel
theorem dX12_errors_52 : decode cX12_errors 52 = .ok (.ldc_w 383, 3) := by decide +kernel
theorem dX12_errors_55 : decode cX12_errors 55 = .ok (.if_icmp .ge 141, 3) := by decide +kernel
theorem dX12_errors_196 : decode cX12_errors 196 = .ok (.iconst 0, 1) := by decide +kernel
theorem dX12_errors_197 : decode cX12_errors 197 = .ok (.istore 4, 2) := by decide +kernel
theorem dX12_errors_199 : decode cX12_errors 199 = .ok (.iconst 0, 1) := by decide +kernel
theorem dX12_errors_200 : decode cX12_errors 200 = .ok (.istore 5, 2) := by decide +kernel
theorem dX12_errors_202 : decode cX12_errors 202 = .ok (.iload 5, 2) := by decide +kernel
theorem dX12_errors_204 : decode cX12_errors 204 = .ok (.aload_n 0, 1) := by decide +kernel
theorem dX12_errors_205 : decode cX12_errors 205 = .ok (.invokevirtual 112, 3) := by decide +kernel
theorem dX12_errors_208 : decode cX12_errors 208 = .ok (.if_icmp .ge 69, 3) := by decide +kernel
theorem dX12_errors_277 : decode cX12_errors 277 = .ok (.aload_n 2, 1) := by decide +kernel
theorem dX12_errors_278 : decode cX12_errors 278 = .ok (.astore 5, 2) := by decide +kernel
theorem dX12_errors_280 : decode cX12_errors 280 = .ok (.aload 5, 2) := by decide +kernel
theorem dX12_errors_282 : decode cX12_errors 282 = .ok (.arraylength, 1) := by decide +kernel
theorem dX12_errors_283 : decode cX12_errors 283 = .ok (.istore 6, 2) := by decide +kernel
theorem dX12_errors_285 : decode cX12_errors 285 = .ok (.iconst 0, 1) := by decide +kernel
theorem dX12_errors_286 : decode cX12_errors 286 = .ok (.istore 7, 2) := by decide +kernel
theorem dX12_errors_288 : decode cX12_errors 288 = .ok (.iload 7, 2) := by decide +kernel
theorem dX12_errors_290 : decode cX12_errors 290 = .ok (.iload 6, 2) := by decide +kernel
theorem dX12_errors_292 : decode cX12_errors 292 = .ok (.if_icmp .ge 31, 3) := by decide +kernel
theorem dX12_errors_295 : decode cX12_errors 295 = .ok (.aload 5, 2) := by decide +kernel
theorem dX12_errors_297 : decode cX12_errors 297 = .ok (.iload 7, 2) := by decide +kernel
theorem dX12_errors_299 : decode cX12_errors 299 = .ok (.baload, 1) := by decide +kernel
theorem dX12_errors_300 : decode cX12_errors 300 = .ok (.istore 8, 2) := by decide +kernel
theorem dX12_errors_302 : decode cX12_errors 302 = .ok (.iload 4, 2) := by decide +kernel
theorem dX12_errors_304 : decode cX12_errors 304 = .ok (.iload 8, 2) := by decide +kernel
theorem dX12_errors_306 : decode cX12_errors 306 = .ok (.ifCond .eq 7, 3) := by decide +kernel
theorem dX12_errors_313 : decode cX12_errors 313 = .ok (.iconst 0, 1) := by decide +kernel
theorem dX12_errors_314 : decode cX12_errors 314 = .ok (.iadd, 1) := by decide +kernel
theorem dX12_errors_315 : decode cX12_errors 315 = .ok (.istore 4, 2) := by decide +kernel
theorem dX12_errors_317 : decode cX12_errors 317 = .ok (.iinc 7 1, 3) := by decide +kernel
theorem dX12_errors_320 : decode cX12_errors 320 = .ok (.goto (-32), 3) := by decide +kernel
theorem dX12_errors_323 : decode cX12_errors 323 = .ok (.iload 4, 2) := by decide +kernel
theorem dX12_errors_325 : decode cX12_errors 325 = .ok (.ireturn, 1) := by decide +kernel
theorem dX12_errors_58 : decode cX12_errors 58 = .ok (.aload_n 0, 1) := by decide +kernel
theorem dX12_errors_59 : decode cX12_errors 59 = .ok (.iload 4, 2) := by decide +kernel
theorem dX12_errors_61 : decode cX12_errors 61 = .ok (.invokevirtual 384, 3) := by decide +kernel
theorem dX12_errors_64 : decode cX12_errors 64 = .ok (.ifCond .ne 6, 3) := by decide +kernel
theorem dX12_errors_70 : decode cX12_errors 70 = .ok (.iconst 0, 1) := by decide +kernel
theorem dX12_errors_71 : decode cX12_errors 71 = .ok (.istore 5, 2) := by decide +kernel
theorem dX12_errors_73 : decode cX12_errors 73 = .ok (.iload 5, 2) := by decide +kernel
theorem dX12_errors_75 : decode cX12_errors 75 = .ok (.aload_n 0, 1) := by decide +kernel
theorem dX12_errors_76 : decode cX12_errors 76 = .ok (.invokevirtual 112, 3) := by decide +kernel
theorem dX12_errors_79 : decode cX12_errors 79 = .ok (.if_icmp .ge 44, 3) := by decide +kernel
theorem dX12_errors_123 : decode cX12_errors 123 = .ok (.aload_n 0, 1) := by decide +kernel
theorem dX12_errors_124 : decode cX12_errors 124 = .ok (.iload 4, 2) := by decide +kernel
theorem zw_138 : Cond.methodLink RX12 395 yX12_areOpenHeld ∈ zT := zT_of 2098 (by decide +kernel) (by decide +kernel)
theorem zw_139 : Cond.instanceMethod yX12_areOpenHeld ∈ zT := zT_of 2100 (by decide +kernel) (by decide +kernel)
theorem zw_140 : Cond.selects RX12 yX12_areOpenHeld yX12_areOpenHeld ∈ zT := zT_ofS 108 (by decide +kernel) (by decide +kernel)
theorem zw_141 : Cond.code yX12_areOpenHeld cX12_areOpenHeld 4 (some .boolean) ∈ zT := zT_of 2101 (by decide +kernel) (by decide +kernel)
theorem dX12_errors_126 : decode cX12_errors 126 = .ok (.invokevirtual 395, 3) := by decide +kernel
theorem dX12_errors_129 : decode cX12_errors 129 = .ok (.istore 5, 2) := by decide +kernel
theorem dX12_errors_131 : decode cX12_errors 131 = .ok (.iconst 0, 1) := by decide +kernel
theorem dX12_errors_132 : decode cX12_errors 132 = .ok (.istore 6, 2) := by decide +kernel
theorem dX12_errors_134 : decode cX12_errors 134 = .ok (.iload 6, 2) := by decide +kernel
theorem dX12_errors_136 : decode cX12_errors 136 = .ok (.iconst 4, 1) := by decide +kernel
theorem dX12_errors_137 : decode cX12_errors 137 = .ok (.if_icmp .ge 53, 3) := by decide +kernel
theorem dX12_errors_140 : decode cX12_errors 140 = .ok (.aload_n 2, 1) := by decide +kernel
theorem dX12_errors_141 : decode cX12_errors 141 = .ok (.iload 6, 2) := by decide +kernel
theorem dX12_errors_143 : decode cX12_errors 143 = .ok (.aload_n 2, 1) := by decide +kernel
theorem dX12_errors_144 : decode cX12_errors 144 = .ok (.iload 6, 2) := by decide +kernel
theorem dX12_errors_146 : decode cX12_errors 146 = .ok (.baload, 1) := by decide +kernel
theorem dX12_errors_147 : decode cX12_errors 147 = .ok (.ifCond .ne 31, 3) := by decide +kernel
theorem dX12_errors_150 : decode cX12_errors 150 = .ok (.iload 5, 2) := by decide +kernel
theorem dX12_errors_152 : decode cX12_errors 152 = .ok (.ifCond .eq 30, 3) := by decide +kernel
theorem dX12_errors_155 : decode cX12_errors 155 = .ok (.aload_n 3, 1) := by decide +kernel
theorem dX12_errors_156 : decode cX12_errors 156 = .ok (.iload 6, 2) := by decide +kernel
theorem dX12_errors_158 : decode cX12_errors 158 = .ok (.iaload, 1) := by decide +kernel
theorem dX12_errors_159 : decode cX12_errors 159 = .ok (.iconst (-1), 1) := by decide +kernel
theorem dX12_errors_160 : decode cX12_errors 160 = .ok (.if_icmp .eq 22, 3) := by decide +kernel
theorem dX12_errors_182 : decode cX12_errors 182 = .ok (.iconst 0, 1) := by decide +kernel
theorem dX12_errors_183 : decode cX12_errors 183 = .ok (.bastore, 1) := by decide +kernel
theorem dX12_errors_184 : decode cX12_errors 184 = .ok (.iinc 6 1, 3) := by decide +kernel
theorem dX12_errors_187 : decode cX12_errors 187 = .ok (.goto (-53), 3) := by decide +kernel
theorem dX12_errors_190 : decode cX12_errors 190 = .ok (.iinc 4 1, 3) := by decide +kernel
theorem dX12_errors_193 : decode cX12_errors 193 = .ok (.goto (-143), 3) := by decide +kernel
theorem dX12_errors_67 : decode cX12_errors 67 = .ok (.goto 123, 3) := by decide +kernel
theorem zvar_f {p0 p1 : Int32} (h0 : 0 ≤ p0.toInt) (h9 : p0.toInt ≤ 9) (k : Int32) (hk0 : 0 ≤ k.toInt) (hk9 : k.toInt ≤ 9) : 0 < ((upd (upd zI0 (13 + 41 * p0).toNatClampNeg 1) (13 + 41 * p0 + 1).toNatClampNeg p1) (13 + 41 * k).toNatClampNeg).toInt ↔ k = p0 := by
  obtain ⟨j, hj, rfl⟩ := vp_in_of (n := 10) (vp_in_iff.mpr ⟨h0, by omega⟩) (by decide)
  obtain ⟨i, hi, rfl⟩ := vp_in_of (n := 10) (vp_in_iff.mpr ⟨hk0, by omega⟩) (by decide)
  have e : ∀ z : Nat, (13 : Int32) + 41 * nI z = nI (13 + 41 * z) := fun z => by
    show nI 13 + nI 41 * nI z = _
    rw [pk_mul, nI_add]
  rw [e, e, nI_1, nI_clamp (by omega), nI_clamp (by omega), nI_clamp (by omega)]
  unfold upd
  rw [if_neg (by omega)]
  by_cases h : i = j
  · rw [if_pos (by omega), h]
    exact ⟨fun _ => rfl, fun _ => by decide⟩
  · rw [if_neg (by omega)]
    refine ⟨fun q => absurd (show 0 < (0 : Int32).toInt from q) (by decide), fun q => absurd ((nI_eq (by omega) (by omega)).mp q) h⟩
/-- the byte of a number that a shift by k brings down -/
def zB (p : Int64) (k : Int32) : Int64 := (p.toUInt64 >>> (k.toInt64.toUInt64 &&& Int64.toUInt64 63)).toInt64 &&& 255
def zC (p : Int64) (k : Int32) : Int32 := if zB p k = 0 then 0 else 1
/-- how many of the first n bytes, the highest first, are not 0 -/
def zN (p : Int64) : Nat → Int32 | 0 => 0 | n + 1 => zN p n + zC p (([56, 48, 40, 32, 24, 16, 8, 0] : List Int32).getD n 0)
theorem zN_le (p : Int64) : ∀ n : Nat, n ≤ 8 → 0 ≤ (zN p n).toInt ∧ (zN p n).toInt ≤ n
  | 0, _ => ⟨show (0 : Int) ≤ (0 : Int32).toInt by decide, show (0 : Int32).toInt ≤ ((0 : Nat) : Int) by decide⟩
  | n + 1, h => by
    have ih := zN_le p n (by omega)
    unfold zN zC
    split
    · rw [Int32.add_zero]; omega
    · rw [zinc (by omega)]; omega
theorem zB_bits (p : Int64) (k : Int32) : ∃ n : Nat, n < 256 ∧ zB p k = lN n := by
  refine ⟨((p.toUInt64 >>> (k.toInt64.toUInt64 &&& Int64.toUInt64 63)).toInt64 &&& 255).toBitVec.toNat, ?_, ?_⟩
  · show (((p.toUInt64 >>> (k.toInt64.toUInt64 &&& Int64.toUInt64 63)).toInt64.toBitVec &&& (255 : BitVec 64))).toNat < 256
    rw [BitVec.toNat_and]
    exact Nat.lt_of_le_of_lt Nat.and_le_right (by decide)
  · unfold zB lN
    apply Int64.toBitVec_inj.mp
    show _ = BitVec.ofNat 64 _
    rw [BitVec.ofNat_toNat]
    exact (BitVec.setWidth_eq _).symm
theorem zB_32 (p : Int64) (k : Int32) : (zB p k).toInt32 = 0 ↔ zB p k = 0 := by
  obtain ⟨n, hn, e⟩ := zB_bits p k
  rw [e, lN_i]
  constructor
  · intro h
    have := (nI_eq (a := n) (b := 0) (by omega) (by decide)).mp h
    rw [this]; rfl
  · intro h
    have h2 : lN n = lN 0 := h
    have := (lN_eq (a := n) (b := 0) (by omega) (by decide)).mp h2
    rw [this]; rfl
theorem zcmp0 (x : Int64) : lg_cmp x 0 = 0 ↔ x = 0 := by
  unfold lg_cmp
  split
  · rename_i h; constructor
    · intro q; exact absurd q (by decide)
    · intro q; subst q; exact absurd h (by decide)
  · split
    · rename_i h1 h2; exact ⟨fun _ => by simpa using h2, fun _ => rfl⟩
    · rename_i h1 h2; exact ⟨fun q => absurd q (by decide), fun q => absurd (by simpa using q) h2⟩

set_option maxHeartbeats 4000000 in
set_option maxRecDepth 100000 in
theorem k_X12_isFullG (l : Launch) (D : va_G) (a : Nat → Nat) (i : Nat → Int32) (cI : ClassId) (f : Nat → Int32) (k : Int32) (hk : 0 ≤ k.toInt ∧ k.toInt ≤ 9) : Met l yX12_isFull (.code yX12_isFull cX12_isFull 2 (some .boolean) :: zT) ({ frames := 1, cells := 0, slots := 0, locals := 21 }) (va_Pc [.ref (a 0), .int k] (zR D [((a 0), .inr (12, zMo a i)), ((a 1), .inl (cI, 6792, .inl f))] [(cI, .int)])) (vp_Si (fun r => (r = 1 ∧ 0 < (f (13 + 41 * k).toNatClampNeg).toInt) ∨ (r = 0 ∧ ¬ 0 < (f (13 + 41 * k).toNatClampNeg).toInt))) 0 0 (fun _ => False) := by
  refine Met.ofW (cc := cX12_isFull) (maxL := 2) (ret := (some .boolean)) (by decide) rfl ?_
  intro p e s m args below meth c s₁ B hml hv
  obtain ⟨rfl, hP, hK⟩ := hv
  have hx := B.exec
  have hb := B.bytes
  have hr := B.returns
  have hts := atoms_spec (ws := (.code yX12_isFull cX12_isFull 2 (some .boolean) :: zT)) B.pre
  have ht : ∀ w ∈ zT, w.before _ s = true := fun w h => hts w (List.mem_cons_of_mem _ h)
  have hown : s.vm.findClass RX12 = some m.cls := findClass_of_methodNamed B.named
  have hlocks := B.notSynchronized
  have hl := lv_entry ([.ref (a 0), .int k]) (n := 2) (Nat.le_of_ble_eq_true rfl)
  rw [lg_entry_eq]
  generalize (lg_sl ([.ref (a 0), .int k]) ++ List.replicate (2 - (lg_sl ([.ref (a 0), .int k])).length) Slot.unset).toArray = ls at hl ⊢
  have hl : lv_has ls 2 [(0, .ref (a 0)), (1, .int k)] := hl
  skip
  refine lv_aload_n hx hb dX12_isFull_0 rfl (lv_at hl 0 rfl) ?_
  refine va_get (D := D) (ci := 12) (v := .ref (a 1)) (C := RX12) (T := TX12) (N := 25) hx hb ht zinX12 hown hK hP 0 rfl rfl 1 (by decide) (ht _ zw_34) (fun _ h9 => h9) rfl dX12_isFull_1 ?_
  refine lv_aload_n hx hb dX12_isFull_4 rfl (lv_at hl 0 rfl) ?_
  refine lv_iload_n hx hb dX12_isFull_5 rfl (lv_at hl 1 rfl) ?_
  refine vp_callSi (va_runV (As := [.int k]) (rest := [.ref (a 1)]) ⟨hx, hb, hml, hown, ht⟩ (k_X12_atRegister l (a 0) k) (cwV 1 ht (zG_V zw_35 zw_36 zw_37 zw_2 zw_38) rfl rfl rfl (by decide +kernel) ⟨Nat.le_of_ble_eq_true rfl, Nat.le_of_ble_eq_true rfl⟩) (zN_V (va_recv hK hP (ci := 12) (q0 := 0) rfl rfl)) rfl rfl hl.1 rfl (lv_room (Nat.le_of_ble_eq_true rfl)) dX12_isFull_6 ⟨Nat.le_of_ble_eq_true rfl, Nat.le_of_ble_eq_true rfl⟩).run (fun r_1 hw_1 => ?_)
  have hi_1 : vp_in r_1 6792 := by rw [hw_1]; exact zreg_in hk.1 hk.2
  refine va_iald hx hb hK hP 1 0 rfl rfl hi_1 dX12_isFull_9 ?_
  refine lv_topi (fun x_3 e_3 => ?_)
  refine lv_if_le (tgt := 17) hx hb dX12_isFull_10 (by decide) (fun c_4 => ?_) (fun c_4 => ?_)
  · skip
    simp only [fa_lt, fa_le, fa_eq, Int32.reduceToInt] at c_4
    refine lv_iconst (v := 0) hx hb dX12_isFull_17 (by decide) ?_
    refine W.widen (k := 0) (n := 0) (Nat.le_of_ble_eq_true rfl) (Nat.le_of_ble_eq_true rfl) ?_
    exact W.zret (v := 0) hx hb hr rfl (fun t ht hW => ⟨0, rfl, (.inr ⟨rfl, by rw [← hw_1, ← e_3]; omega⟩), ht⟩) (fun q h => nomatch h) dX12_isFull_18
  · skip
    simp only [fa_lt, fa_le, fa_eq, Int32.reduceToInt] at c_4
    refine lv_iconst (v := 1) hx hb dX12_isFull_13 (by decide) ?_
    refine lv_goto (tgt := 18) hx hb dX12_isFull_14 (by decide) ?_
    refine W.widen (k := 0) (n := 0) (Nat.le_of_ble_eq_true rfl) (Nat.le_of_ble_eq_true rfl) ?_
    exact W.zret (v := 1) hx hb hr rfl (fun t ht hW => ⟨1, rfl, (.inl ⟨rfl, by rw [← hw_1, ← e_3]; omega⟩), ht⟩) (fun q h => nomatch h) dX12_isFull_18
set_option maxHeartbeats 4000000 in
set_option maxRecDepth 100000 in
theorem k_X12_fullOnes (l : Launch) (D : va_G) (a : Nat → Nat) (i : Nat → Int32) (cI : ClassId) (f : Nat → Int32) (p0 : Int32) (hp : 0 ≤ p0.toInt ∧ p0.toInt ≤ 9) (hf : ∀ k : Int32, 0 ≤ k.toInt → k.toInt ≤ 9 → (0 < (f (13 + 41 * k).toNatClampNeg).toInt ↔ k = p0)) : Met l yX12_fullOnes (.code yX12_fullOnes cX12_fullOnes 3 (some .int) :: zT) ({ frames := 2, cells := 0, slots := 0, locals := 42 }) (va_Pc [.ref (a 0)] (zR D [((a 0), .inr (12, zMo a i)), ((a 1), .inl (cI, 6792, .inl f))] [(cI, .int)])) (vp_Si (fun r => r = 1)) 0 0 (fun _ => False) := by
  refine Met.ofW (cc := cX12_fullOnes) (maxL := 3) (ret := (some .int)) (by decide) rfl ?_
  intro p e s m args below meth c s₁ B hml hv
  obtain ⟨rfl, hP, hK⟩ := hv
  have hx := B.exec
  have hb := B.bytes
  have hr := B.returns
  have hts := atoms_spec (ws := (.code yX12_fullOnes cX12_fullOnes 3 (some .int) :: zT)) B.pre
  have ht : ∀ w ∈ zT, w.before _ s = true := fun w h => hts w (List.mem_cons_of_mem _ h)
  have hown : s.vm.findClass RX12 = some m.cls := findClass_of_methodNamed B.named
  have hlocks := B.notSynchronized
  have hl := lv_entry ([.ref (a 0)]) (n := 3) (Nat.le_of_ble_eq_true rfl)
  rw [lg_entry_eq]
  generalize (lg_sl ([.ref (a 0)]) ++ List.replicate (3 - (lg_sl ([.ref (a 0)])).length) Slot.unset).toArray = ls at hl ⊢
  have hl : lv_has ls 3 [(0, .ref (a 0))] := hl
  skip
  refine lv_iconst (v := 0) hx hb dX12_fullOnes_0 (by decide) ?_
  refine lv_istore_n (lv' := [(1, .int 0), (0, .ref (a 0))]) hx hb dX12_fullOnes_1 rfl hl (by decide) rfl (fun ls hl => ?_)
  refine lv_iconst (v := 0) hx hb dX12_fullOnes_2 (by decide) ?_
  refine lv_istore_n (lv' := [(2, .int 0), (1, .int 0), (0, .ref (a 0))]) hx hb dX12_fullOnes_3 rfl hl (by decide) rfl (fun ls hl => ?_)
  have hloop_1 : ∀ (n_1 : Nat) (x1 : Int32) (x2 : Int32), 0 ≤ x2.toInt → x2.toInt ≤ 10 → 10 - x2.toInt < n_1 → ((x2.toInt ≤ p0.toInt → x1 = 0) ∧ (p0.toInt < x2.toInt → x1 = 1)) → ∀ (ls : Array Slot), lv_has ls 3 [(1, .int x1), (2, .int x2), (0, .ref (a 0))] → W p l e (headSpec (.code yX12_fullOnes cX12_fullOnes 3 (some .int) :: zT) ({ frames := 2, cells := 0, slots := 0, locals := 42 })).room s m (([.ref (a 0)] : List Value)).toArray below meth c s.heap [] 0 0 (MQ below (vp_Si (fun r => r = 1)) (([.ref (a 0)] : List Value)).toArray s 0 0 (fun _ => False)) (F0 m 4 ls []) := by
    intro n_1
    induction n_1 with
    | zero => intro x1 x2 hx0 hx1 hx2; intros; exfalso; omega
    | succ n_1 ih_1 =>
      intro x1 x2 hlo_1 hhi_1 hms_1 inv ls hl
      refine lv_iload_n hx hb dX12_fullOnes_4 rfl (lv_at hl 1 rfl) ?_
      refine lv_bipush (v := 10) hx hb dX12_fullOnes_5 (by decide) ?_
      refine lv_icmp_ge (tgt := 32) hx hb dX12_fullOnes_7 (by decide) (fun c_2 => ?_) (fun c_2 => ?_)
      · skip
        simp only [fa_lt, fa_le, fa_eq, Int32.reduceToInt] at c_2
        refine lv_iload_n hx hb dX12_fullOnes_32 rfl (lv_at hl 0 rfl) ?_
        refine W.widen (k := 0) (n := 0) (Nat.le_of_ble_eq_true rfl) (Nat.le_of_ble_eq_true rfl) ?_
        exact W.iret (v := x1) hx hb hr (fun t ht hW => ⟨x1, rfl, (inv.2 (by omega)), ht⟩) (fun q h => nomatch h) dX12_fullOnes_33
      · skip
        simp only [fa_lt, fa_le, fa_eq, Int32.reduceToInt] at c_2
        refine lv_iload_n hx hb dX12_fullOnes_10 rfl (lv_at hl 0 rfl) ?_
        refine lv_aload_n hx hb dX12_fullOnes_11 rfl (lv_at hl 2 rfl) ?_
        refine lv_iload_n hx hb dX12_fullOnes_12 rfl (lv_at hl 1 rfl) ?_
        refine vp_callSi (va_runV (As := [.int x2]) (rest := [.int x1]) ⟨hx, hb, hml, hown, ht⟩ (k_X12_isFullG l D a i cI f x2 ⟨by omega, by omega⟩) (cwV 1 ht (zG_V zw_69 zw_70 zw_71 zw_2 zw_72) rfl rfl rfl (by decide +kernel) ⟨Nat.le_of_ble_eq_true rfl, Nat.le_of_ble_eq_true rfl⟩) (zR_V (va_recv hK hP (ci := 12) (q0 := 0) rfl rfl) hP hK) rfl rfl hl.1 rfl (lv_room (Nat.le_of_ble_eq_true rfl)) dX12_fullOnes_13 ⟨Nat.le_of_ble_eq_true rfl, Nat.le_of_ble_eq_true rfl⟩).run (fun r_3 hw_3 => ?_)
        rcases hw_3 with ⟨rfl, h_3⟩ | ⟨rfl, h_3⟩
        · skip
          refine lv_if_eq (tgt := 23) hx hb dX12_fullOnes_16 (by decide) (fun c_4 => ?_) (fun c_4 => ?_)
          · skip
            exact absurd c_4 (by decide)
          · skip
            refine lv_iconst (v := 1) hx hb dX12_fullOnes_19 (by decide) ?_
            refine lv_goto (tgt := 24) hx hb dX12_fullOnes_20 (by decide) ?_
            refine lv_iadd hx hb dX12_fullOnes_24 ?_
            refine lv_topi (fun x_5 e_5 => ?_)
            refine lv_istore_n (lv' := [(1, .int x_5), (2, .int x2), (0, .ref (a 0))]) hx hb dX12_fullOnes_25 rfl hl (by decide) rfl (fun ls hl => ?_)
            obtain ⟨x_6, e_6⟩ : ∃ y : Int32, y = x2 + 1 := ⟨_, rfl⟩
            refine lv_iinc (v := x_6) (lv' := [(2, .int x_6), (1, .int x_5), (0, .ref (a 0))]) hx hb dX12_fullOnes_26 hl (k := 1) rfl (by rw [e_6]; rfl) (by decide) rfl (fun ls hl => ?_)
            refine lv_goto (tgt := 4) hx hb dX12_fullOnes_29 (by decide) ?_
            have hinc_7 : x_6.toInt = x2.toInt + 1 := by rw [e_6]; exact zinc (by omega)
            exact ih_1 x_5 x_6 (by omega) (by omega) (by omega) (by have hz := (hf x2 (by omega) (by omega)).symm; rw [fa_eq] at hz; rw [e_5]; exact ⟨fun h => by rw [inv.1 (by omega)]; first | rfl | (exfalso; omega), fun h => by first | (rw [inv.1 (by omega)]; rfl) | (rw [inv.2 (by omega)]; rfl) | (exfalso; omega)⟩)  ls (lv_sub hl [1, 0, 2] rfl)
        · skip
          refine lv_if_eq (tgt := 23) hx hb dX12_fullOnes_16 (by decide) (fun c_8 => ?_) (fun c_8 => ?_)
          · skip
            refine lv_iconst (v := 0) hx hb dX12_fullOnes_23 (by decide) ?_
            refine lv_iadd hx hb dX12_fullOnes_24 ?_
            refine lv_topi (fun x_9 e_9 => ?_)
            refine lv_istore_n (lv' := [(1, .int x_9), (2, .int x2), (0, .ref (a 0))]) hx hb dX12_fullOnes_25 rfl hl (by decide) rfl (fun ls hl => ?_)
            obtain ⟨x_10, e_10⟩ : ∃ y : Int32, y = x2 + 1 := ⟨_, rfl⟩
            refine lv_iinc (v := x_10) (lv' := [(2, .int x_10), (1, .int x_9), (0, .ref (a 0))]) hx hb dX12_fullOnes_26 hl (k := 1) rfl (by rw [e_10]; rfl) (by decide) rfl (fun ls hl => ?_)
            refine lv_goto (tgt := 4) hx hb dX12_fullOnes_29 (by decide) ?_
            have hinc_11 : x_10.toInt = x2.toInt + 1 := by rw [e_10]; exact zinc (by omega)
            exact ih_1 x_9 x_10 (by omega) (by omega) (by omega) (by have hz := (hf x2 (by omega) (by omega)).symm; rw [fa_eq] at hz; rw [e_9]; exact ⟨fun h => by rw [inv.1 (by omega)]; first | rfl | (exfalso; omega), fun h => by first | (rw [inv.1 (by omega)]; rfl) | (rw [inv.2 (by omega)]; rfl) | (exfalso; omega)⟩)  ls (lv_sub hl [1, 0, 2] rfl)
          · skip
            exact absurd c_8 (by decide)
  refine hloop_1 11 0 0 (by decide) (by decide) (by decide) ⟨fun _ => rfl, fun h => by exfalso; rw [show (0 : Int32).toInt = 0 from rfl] at h; omega⟩  ls (lv_sub hl [1, 0, 2] rfl)
set_option maxHeartbeats 4000000 in
set_option maxRecDepth 100000 in
theorem k_X12_variable (l : Launch) (sz : Nat) (D : va_G) (a : Nat → Nat) (cI : ClassId) (p0 p1 : Int32) (cJ : ClassId) (fa : Nat → Option Nat) (ha : fa 0 = some (a 30)) : Met l yX12_variable (.code yX12_variable cX12_variable 3 (some .int) :: zT) ({ frames := 3, cells := 0, slots := 0, locals := 86 }) (va_Pc [.ref (a 0), .int p0, .int p1] (zM D [((a 0), .inr (12, zMo a zI0)), ((a 1), .inl (cI, 6792, .inl zI0)), ((a 2), .inl (cJ, 8, .inr (.inr (.inr (.inr fa))))), ((a 30), .inl (cI, 6792, .inl zI0))] [(cI, .int), (cJ, .array .int)] sz)) (va_Qi (fun (r : Int32) (u : Nat → Int32) => zS_variable p0 p1 (u 0) r) (fun u t => zE D [(a 0, .inr (12, zMo a u))] [] (va_A [((a 0), .inr (12, zMo a zI0)), ((a 1), .inl (cI, 6792, .inl zI0)), ((a 2), .inl (cJ, 8, .inr (.inr (.inr (.inr fa))))), ((a 30), .inl (cI, 6792, .inl zI0))] sz) t) (va_A [((a 0), .inr (12, zMo a zI0)), ((a 1), .inl (cI, 6792, .inl zI0)), ((a 2), .inl (cJ, 8, .inr (.inr (.inr (.inr fa))))), ((a 30), .inl (cI, 6792, .inl zI0))] sz)) 0 0 (va_A [((a 0), .inr (12, zMo a zI0)), ((a 1), .inl (cI, 6792, .inl zI0)), ((a 2), .inl (cJ, 8, .inr (.inr (.inr (.inr fa))))), ((a 30), .inl (cI, 6792, .inl zI0))] sz) := by
  refine Met.ofW (cc := cX12_variable) (maxL := 3) (ret := (some .int)) (by decide) rfl ?_
  intro p e s m args below meth c s₁ B hml hv
  obtain ⟨rfl, hsz, hP, hK, hD0⟩ := hv
  have hx := B.exec
  have hb := B.bytes
  have hr := B.returns
  have hts := atoms_spec (ws := (.code yX12_variable cX12_variable 3 (some .int) :: zT)) B.pre
  have ht : ∀ w ∈ zT, w.before _ s = true := fun w h => hts w (List.mem_cons_of_mem _ h)
  have hown : s.vm.findClass RX12 = some m.cls := findClass_of_methodNamed B.named
  have hlocks := B.notSynchronized
  subst hsz
  have hD := hD0.self (sz := s.heap.size)
  generalize hAe : va_A [((a 0), .inr (12, zMo a zI0)), ((a 1), .inl (cI, 6792, .inl zI0)), ((a 2), .inl (cJ, 8, .inr (.inr (.inr (.inr fa))))), ((a 30), .inl (cI, 6792, .inl zI0))] s.heap.size = A at hD ⊢
  have hA : ∀ q : Nat, s.heap.size ≤ q → A q := fun q h => by rw [← hAe]; exact Or.inr h
  have hS : va_S A s.heap s.heap [] := va_S.rf
  have hP : va_P D vwCl [((a 0), .inr (12, zMo a zI0)), ((a 1), .inl (cI, 6792, .inl zI0)), ((a 2), .inl (cJ, 8, .inr (.inr (.inr (.inr fa))))), ((a 30), .inl (cI, 6792, .inl zI0))] s.heap := hP
  have hl := lv_entry ([.ref (a 0), .int p0, .int p1]) (n := 3) (Nat.le_of_ble_eq_true rfl)
  rw [lg_entry_eq]
  generalize (lg_sl ([.ref (a 0), .int p0, .int p1]) ++ List.replicate (3 - (lg_sl ([.ref (a 0), .int p0, .int p1])).length) Slot.unset).toArray = ls at hl ⊢
  have hl : lv_has ls 3 [(0, .ref (a 0)), (1, .int p0), (2, .int p1)] := hl
  skip
  refine lv_aload_n hx hb dX12_variable_0 rfl (lv_at hl 0 rfl) ?_
  refine lv_iload_n hx hb dX12_variable_1 rfl (lv_at hl 1 rfl) ?_
  refine vp_callSi (va_runS (As := [.int p0]) (rest := [.ref (a 0)]) ⟨hx, hb, hml, hown, ht⟩ (k_X12_isRegister l p0) (va_cwS 1 ht (zG_S zw_59 zw_60 zw_2 zw_61) rfl rfl rfl (by decide +kernel) ⟨Nat.le_of_ble_eq_true rfl, Nat.le_of_ble_eq_true rfl⟩) zN_S rfl rfl hl.1 rfl (lv_room (Nat.le_of_ble_eq_true rfl)) dX12_variable_2 ⟨Nat.le_of_ble_eq_true rfl, Nat.le_of_ble_eq_true rfl⟩).run (fun r_1 hw_1 => ?_)
  rcases hw_1 with ⟨rfl, h_1⟩ | ⟨rfl, h_1⟩
  · skip
    have hPc := hP.sub (ws' := [((a 0), .inr (12, zMo a zI0))]) [0] rfl
    have hDc := hD.sub (ws' := [((a 0), .inr (12, zMo a zI0))]) [0] (by decide) rfl
    have hKc := hK.sub (tys' := []) [] rfl
    have hFc := va_free (wc := [((a 0), .inr (12, zMo a zI0))]) hD hS hA [0] rfl
    refine va_calli (va_runV (As := [.int 1]) (rest := []) ⟨hx, hb, hml, hown, ht⟩ (k_X12_lacks l _ D a zI0 1 (by decide)) (cwV 1 ht (zG_V zw_62 zw_63 zw_64 zw_2 zw_65) rfl rfl rfl (by decide +kernel) ⟨Nat.le_of_ble_eq_true rfl, Nat.le_of_ble_eq_true rfl⟩) (zM_V (va_recv hK hP (ci := 12) (q0 := 0) rfl rfl) hPc hKc hDc) rfl rfl hl.1 rfl (lv_room (Nat.le_of_ble_eq_true rfl)) dX12_variable_5 ⟨Nat.le_of_ble_eq_true rfl, Nat.le_of_ble_eq_true rfl⟩) hS (fun q _ h => hFc q h) hFc (fun r_2 u_2 t H1 locs ht0 hvm hw_2 hB hz1 hk1 hS => ?_)
    obtain ⟨rfl, rfl⟩ := hw_2.2 (by decide)
    obtain ⟨hP1, hK1, hD1⟩ := hB
    rw [ht0] at hP1
    have hK1 := va_K.moved hvm.symm hK1
    obtain ⟨hP, hD⟩ := va_join (wr := [((a 1), .inl (cI, 6792, .inl zI0)), ((a 2), .inl (cJ, 8, .inr (.inr (.inr (.inr fa))))), ((a 30), .inl (cI, 6792, .inl zI0))]) (w1 := [((a 0), .inr (12, zMo a (upd zI0 0 0)))]) hP hD [0] [1, 2, 3] rfl rfl (by decide) (by decide) hk1 hFc hP1 hD1
    generalize H1 = H at hP hS ⊢
    have hP : va_P D vwCl [((a 1), .inl (cI, 6792, .inl zI0)), ((a 2), .inl (cJ, 8, .inr (.inr (.inr (.inr fa))))), ((a 30), .inl (cI, 6792, .inl zI0)), ((a 0), .inr (12, zMo a (upd zI0 0 0)))] H := hP
    have hD : va_D A [((a 1), .inl (cI, 6792, .inl zI0)), ((a 2), .inl (cJ, 8, .inr (.inr (.inr (.inr fa))))), ((a 30), .inl (cI, 6792, .inl zI0)), ((a 0), .inr (12, zMo a (upd zI0 0 0)))] := hD
    refine lv_if_ne (tgt := 25) hx hb dX12_variable_8 (by decide) (fun c_3 => ?_) (fun c_3 => ?_)
    · skip
      exact absurd c_3 (by decide)
    · skip
      refine lv_aload_n hx hb dX12_variable_11 rfl (lv_at hl 0 rfl) ?_
      refine lv_iload_n hx hb dX12_variable_12 rfl (lv_at hl 2 rfl) ?_
      refine lv_iconst (v := 0) hx hb dX12_variable_13 (by decide) ?_
      refine lv_iconst (v := 3) hx hb dX12_variable_14 (by decide) ?_
      refine vp_callSi (va_runS (As := [.int p1, .int 0, .int 3]) (rest := [.ref (a 0)]) ⟨hx, hb, hml, hown, ht⟩ (k_X12_in l p1 0 3) (va_cwS 3 ht (zG_S zw_0 zw_1 zw_2 zw_3) rfl rfl rfl (by decide +kernel) ⟨Nat.le_of_ble_eq_true rfl, Nat.le_of_ble_eq_true rfl⟩) zN_S rfl rfl hl.1 rfl (lv_room (Nat.le_of_ble_eq_true rfl)) dX12_variable_15 ⟨Nat.le_of_ble_eq_true rfl, Nat.le_of_ble_eq_true rfl⟩).run (fun r_4 hw_4 => ?_)
      rcases hw_4 with ⟨rfl, h_4⟩ | ⟨rfl, h_4⟩
      · skip
        simp only [Int32.reduceToInt] at h_4
        refine lv_iconst (v := 2) hx hb dX12_variable_18 (by decide) ?_
        have hPc := hP.sub (ws' := [((a 0), .inr (12, zMo a (upd zI0 0 0)))]) [3] rfl
        have hDc := hD.sub (ws' := [((a 0), .inr (12, zMo a (upd zI0 0 0)))]) [3] (by decide) rfl
        have hKc := hK.sub (tys' := []) [] rfl
        have hFc := va_free (wc := [((a 0), .inr (12, zMo a (upd zI0 0 0)))]) hD hS hA [3] rfl
        refine va_calli (va_runV (As := [.int 1, .int 2]) (rest := []) ⟨hx, hb, hml, hown, ht⟩ (k_X12_no l _ D a (upd zI0 0 0) 1 2 (by decide)) (cwV 2 ht (zG_V zw_30 zw_31 zw_32 zw_2 zw_33) rfl rfl rfl (by decide +kernel) ⟨Nat.le_of_ble_eq_true rfl, Nat.le_of_ble_eq_true rfl⟩) (zM_V (va_recv hK hP (ci := 12) (q0 := 3) rfl rfl) hPc hKc hDc) rfl rfl hl.1 rfl (lv_room (Nat.le_of_ble_eq_true rfl)) dX12_variable_19 ⟨Nat.le_of_ble_eq_true rfl, Nat.le_of_ble_eq_true rfl⟩) hS (fun q _ h => hFc q h) hFc (fun r_5 u_5 t H1 locs ht0 hvm hw_5 hB hz1 hk1 hS => ?_)
        obtain ⟨rfl, rfl⟩ := hw_5.2 (by decide)
        obtain ⟨hP1, hK1, hD1⟩ := hB
        rw [ht0] at hP1
        have hK1 := va_K.moved hvm.symm hK1
        obtain ⟨hP, hD⟩ := va_join (wr := [((a 1), .inl (cI, 6792, .inl zI0)), ((a 2), .inl (cJ, 8, .inr (.inr (.inr (.inr fa))))), ((a 30), .inl (cI, 6792, .inl zI0))]) (w1 := [((a 0), .inr (12, zMo a (upd zI0 0 0)))]) hP hD [3] [0, 1, 2] rfl rfl (by decide) (by decide) hk1 hFc hP1 hD1
        generalize H1 = H at hP hS ⊢
        have hP : va_P D vwCl [((a 1), .inl (cI, 6792, .inl zI0)), ((a 2), .inl (cJ, 8, .inr (.inr (.inr (.inr fa))))), ((a 30), .inl (cI, 6792, .inl zI0)), ((a 0), .inr (12, zMo a (upd zI0 0 0)))] H := hP
        have hD : va_D A [((a 1), .inl (cI, 6792, .inl zI0)), ((a 2), .inl (cJ, 8, .inr (.inr (.inr (.inr fa))))), ((a 30), .inl (cI, 6792, .inl zI0)), ((a 0), .inr (12, zMo a (upd zI0 0 0)))] := hD
        refine lv_if_eq (tgt := 27) hx hb dX12_variable_22 (by decide) (fun c_6 => ?_) (fun c_6 => ?_)
        · skip
          refine lv_aload_n hx hb dX12_variable_27 rfl (lv_at hl 0 rfl) ?_
          have hPc := hP.sub (ws' := [((a 0), .inr (12, zMo a (upd zI0 0 0))), ((a 1), .inl (cI, 6792, .inl zI0)), ((a 2), .inl (cJ, 8, .inr (.inr (.inr (.inr fa))))), ((a 30), .inl (cI, 6792, .inl zI0))]) [3, 0, 1, 2] rfl
          have hDc := hD.sub (ws' := [((a 0), .inr (12, zMo a (upd zI0 0 0))), ((a 1), .inl (cI, 6792, .inl zI0)), ((a 2), .inl (cJ, 8, .inr (.inr (.inr (.inr fa))))), ((a 30), .inl (cI, 6792, .inl zI0))]) [3, 0, 1, 2] (by decide) rfl
          have hKc := hK.sub (tys' := [(cI, .int), (cJ, .array .int)]) [0, 1] rfl
          have hFc := va_free (wc := [((a 0), .inr (12, zMo a (upd zI0 0 0))), ((a 1), .inl (cI, 6792, .inl zI0)), ((a 2), .inl (cJ, 8, .inr (.inr (.inr (.inr fa))))), ((a 30), .inl (cI, 6792, .inl zI0))]) hD hS hA [3, 0, 1, 2] rfl
          refine va_callv (va_runV (As := []) (rest := []) ⟨hx, hb, hml, hown, ht⟩ (k_X12_keeps l _ D a (upd zI0 0 0) cI cJ zI0 zI0 fa rfl ha) (cwV 0 ht (zG_V zw_104 zw_105 zw_106 zw_2 zw_107) rfl rfl rfl (by decide +kernel) ⟨Nat.le_of_ble_eq_true rfl, Nat.le_of_ble_eq_true rfl⟩) (zM_V (va_recv hK hP (ci := 12) (q0 := 3) rfl rfl) hPc hKc hDc) rfl rfl hl.1 rfl (lv_room (Nat.le_of_ble_eq_true rfl)) dX12_variable_28 ⟨Nat.le_of_ble_eq_true rfl, Nat.le_of_ble_eq_true rfl⟩) hS (fun q _ h => hFc q h) hFc (fun u_7 t H1 locs ht0 hvm hw_7 hB hz1 hk1 hS => ?_)
          obtain rfl := hw_7
          obtain ⟨hP1, hK1, hD1⟩ := hB
          rw [ht0] at hP1
          have hK1 := va_K.moved hvm.symm hK1
          obtain ⟨hP, hD⟩ := va_join (wr := []) (w1 := [((a 0), .inr (12, zMo a (upd (upd zI0 0 0) 5 1))), ((a 1), .inl (cI, 6792, .inl zI0))]) hP hD [3, 0, 1, 2] [] rfl rfl (by decide) (by decide) hk1 hFc hP1 hD1
          generalize H1 = H at hP hS ⊢
          have hP : va_P D vwCl [((a 0), .inr (12, zMo a (upd (upd zI0 0 0) 5 1))), ((a 1), .inl (cI, 6792, .inl zI0))] H := hP
          have hD : va_D A [((a 0), .inr (12, zMo a (upd (upd zI0 0 0) 5 1))), ((a 1), .inl (cI, 6792, .inl zI0))] := hD
          refine lv_aload_n hx hb dX12_variable_31 rfl (lv_at hl 0 rfl) ?_
          refine va_get (D := D) (ci := 12) (v := .ref (a 1)) (C := RX12) (T := TX12) (N := 25) hx hb ht zinX12 hown hK hP 0 rfl rfl 1 (by decide) (ht _ zw_34) (fun _ h9 => h9) rfl dX12_variable_32 ?_
          refine lv_aload_n hx hb dX12_variable_35 rfl (lv_at hl 0 rfl) ?_
          refine lv_iload_n hx hb dX12_variable_36 rfl (lv_at hl 1 rfl) ?_
          refine vp_callSi (va_runV (As := [.int p0]) (rest := [.ref (a 1)]) ⟨hx, hb, hml, hown, ht⟩ (k_X12_atRegister l (a 0) p0) (cwV 1 ht (zG_V zw_35 zw_36 zw_37 zw_2 zw_38) rfl rfl rfl (by decide +kernel) ⟨Nat.le_of_ble_eq_true rfl, Nat.le_of_ble_eq_true rfl⟩) (zN_V (va_recv hK hP (ci := 12) (q0 := 0) rfl rfl)) rfl rfl hl.1 rfl (lv_room (Nat.le_of_ble_eq_true rfl)) dX12_variable_37 ⟨Nat.le_of_ble_eq_true rfl, Nat.le_of_ble_eq_true rfl⟩).run (fun r_8 hw_8 => ?_)
          have hi_8 : vp_in r_8 6792 := by rw [hw_8]; exact zreg_in h_1.1 h_1.2
          refine lv_iconst (v := 1) hx hb dX12_variable_40 (by decide) ?_
          refine va_iast hx hb hK hP hD hS 1 0 rfl rfl hi_8 dX12_variable_41 (fun H locs hP hD hS => ?_)
          have hP : va_P D vwCl [((a 0), .inr (12, zMo a (upd (upd zI0 0 0) 5 1))), ((a 1), .inl (cI, 6792, .inl (upd zI0 r_8.toNatClampNeg 1)))] H := hP
          have hD : va_D A [((a 0), .inr (12, zMo a (upd (upd zI0 0 0) 5 1))), ((a 1), .inl (cI, 6792, .inl (upd zI0 r_8.toNatClampNeg 1)))] := hD
          refine lv_aload_n hx hb dX12_variable_42 rfl (lv_at hl 0 rfl) ?_
          refine va_get (D := D) (ci := 12) (v := .ref (a 1)) (C := RX12) (T := TX12) (N := 25) hx hb ht zinX12 hown hK hP 0 rfl rfl 1 (by decide) (ht _ zw_34) (fun _ h9 => h9) rfl dX12_variable_43 ?_
          refine lv_aload_n hx hb dX12_variable_46 rfl (lv_at hl 0 rfl) ?_
          refine lv_iload_n hx hb dX12_variable_47 rfl (lv_at hl 1 rfl) ?_
          refine vp_callSi (va_runV (As := [.int p0]) (rest := [.ref (a 1)]) ⟨hx, hb, hml, hown, ht⟩ (k_X12_atRegister l (a 0) p0) (cwV 1 ht (zG_V zw_35 zw_36 zw_37 zw_2 zw_38) rfl rfl rfl (by decide +kernel) ⟨Nat.le_of_ble_eq_true rfl, Nat.le_of_ble_eq_true rfl⟩) (zN_V (va_recv hK hP (ci := 12) (q0 := 0) rfl rfl)) rfl rfl hl.1 rfl (lv_room (Nat.le_of_ble_eq_true rfl)) dX12_variable_48 ⟨Nat.le_of_ble_eq_true rfl, Nat.le_of_ble_eq_true rfl⟩).run (fun r_9 hw_9 => ?_)
          have hi_9 : vp_in r_9 6792 := by rw [hw_9]; exact zreg_in h_1.1 h_1.2
          refine lv_iconst (v := 1) hx hb dX12_variable_51 (by decide) ?_
          refine lv_iadd hx hb dX12_variable_52 ?_
          refine lv_topi (fun x_10 e_10 => ?_)
          have hi_p : vp_in x_10 6792 := by rw [e_10, hw_9]; exact zreg_in1 h_1.1 h_1.2
          refine lv_iload_n hx hb dX12_variable_53 rfl (lv_at hl 2 rfl) ?_
          refine va_iast hx hb hK hP hD hS 1 0 rfl rfl hi_p dX12_variable_54 (fun H locs hP hD hS => ?_)
          have hP : va_P D vwCl [((a 0), .inr (12, zMo a (upd (upd zI0 0 0) 5 1))), ((a 1), .inl (cI, 6792, .inl (upd (upd zI0 r_8.toNatClampNeg 1) x_10.toNatClampNeg p1)))] H := hP
          have hD : va_D A [((a 0), .inr (12, zMo a (upd (upd zI0 0 0) 5 1))), ((a 1), .inl (cI, 6792, .inl (upd (upd zI0 r_8.toNatClampNeg 1) x_10.toNatClampNeg p1)))] := hD
          refine lv_aload_n hx hb dX12_variable_55 rfl (lv_at hl 0 rfl) ?_
          refine vp_callSi (va_runV (As := []) (rest := []) ⟨hx, hb, hml, hown, ht⟩ (k_X12_fullOnes l D a (upd (upd zI0 0 0) 5 1) cI (upd (upd zI0 r_8.toNatClampNeg 1) x_10.toNatClampNeg p1) p0 h_1 (fun k h1 h2 => by rw [hw_8, e_10, hw_9]; exact zvar_f h_1.1 h_1.2 k h1 h2)) (cwV 0 ht (zG_V zw_133 zw_134 zw_135 zw_2 zw_136) rfl rfl rfl (by decide +kernel) ⟨Nat.le_of_ble_eq_true rfl, Nat.le_of_ble_eq_true rfl⟩) (zR_V (va_recv hK hP (ci := 12) (q0 := 0) rfl rfl) hP (hK.sub (tys' := [(cI, .int)]) [0] rfl)) rfl rfl hl.1 rfl (lv_room (Nat.le_of_ble_eq_true rfl)) dX12_variable_56 ⟨Nat.le_of_ble_eq_true rfl, Nat.le_of_ble_eq_true rfl⟩).run (fun r_11 hw_11 => ?_)
          obtain rfl : r_11 = 1 := hw_11
          have hP9 := hP.sub (ws' := [((a 0), .inr (12, zMo a (upd (upd zI0 0 0) 5 1)))]) [0] rfl
          have hD9 := hD.sub (ws' := [((a 0), .inr (12, zMo a (upd (upd zI0 0 0) 5 1)))]) [0] (by decide) rfl
          have hK9 := hK.sub (tys' := []) [] rfl
          refine W.widen (k := 0) (n := 0) (Nat.le_of_ble_eq_true rfl) (Nat.le_of_ble_eq_true rfl) ?_
          exact W.iret (v := 1) hx hb hr (fun t ht0 hW => ⟨⟨1, upd (upd zI0 0 0) 5 1, rfl, (show zS_variable p0 p1 0 1 from (.inr (.inr ⟨rfl, by omega, rfl⟩))), (zE_of hP9 hK9 hD9 ht0 hW)⟩, hS.F ht0⟩) hS.2.2 dX12_variable_59
        · skip
          exact absurd c_6 (by decide)
      · skip
        simp only [Int32.reduceToInt] at h_4
        refine lv_iconst (v := 2) hx hb dX12_variable_18 (by decide) ?_
        have hPc := hP.sub (ws' := [((a 0), .inr (12, zMo a (upd zI0 0 0)))]) [3] rfl
        have hDc := hD.sub (ws' := [((a 0), .inr (12, zMo a (upd zI0 0 0)))]) [3] (by decide) rfl
        have hKc := hK.sub (tys' := []) [] rfl
        have hFc := va_free (wc := [((a 0), .inr (12, zMo a (upd zI0 0 0)))]) hD hS hA [3] rfl
        refine va_calli (va_runV (As := [.int 0, .int 2]) (rest := []) ⟨hx, hb, hml, hown, ht⟩ (k_X12_no l _ D a (upd zI0 0 0) 0 2 (by decide)) (cwV 2 ht (zG_V zw_30 zw_31 zw_32 zw_2 zw_33) rfl rfl rfl (by decide +kernel) ⟨Nat.le_of_ble_eq_true rfl, Nat.le_of_ble_eq_true rfl⟩) (zM_V (va_recv hK hP (ci := 12) (q0 := 3) rfl rfl) hPc hKc hDc) rfl rfl hl.1 rfl (lv_room (Nat.le_of_ble_eq_true rfl)) dX12_variable_19 ⟨Nat.le_of_ble_eq_true rfl, Nat.le_of_ble_eq_true rfl⟩) hS (fun q _ h => hFc q h) hFc (fun r_12 u_12 t H1 locs ht0 hvm hw_12 hB hz1 hk1 hS => ?_)
        obtain ⟨rfl, rfl⟩ := hw_12.1 rfl
        obtain ⟨hP1, hK1, hD1⟩ := hB
        rw [ht0] at hP1
        have hK1 := va_K.moved hvm.symm hK1
        obtain ⟨hP, hD⟩ := va_join (wr := [((a 1), .inl (cI, 6792, .inl zI0)), ((a 2), .inl (cJ, 8, .inr (.inr (.inr (.inr fa))))), ((a 30), .inl (cI, 6792, .inl zI0))]) (w1 := [((a 0), .inr (12, zMo a (upd zI0 0 2)))]) hP hD [3] [0, 1, 2] rfl rfl (by decide) (by decide) hk1 hFc hP1 hD1
        generalize H1 = H at hP hS ⊢
        have hP : va_P D vwCl [((a 1), .inl (cI, 6792, .inl zI0)), ((a 2), .inl (cJ, 8, .inr (.inr (.inr (.inr fa))))), ((a 30), .inl (cI, 6792, .inl zI0)), ((a 0), .inr (12, zMo a (upd zI0 0 2)))] H := hP
        have hD : va_D A [((a 1), .inl (cI, 6792, .inl zI0)), ((a 2), .inl (cJ, 8, .inr (.inr (.inr (.inr fa))))), ((a 30), .inl (cI, 6792, .inl zI0)), ((a 0), .inr (12, zMo a (upd zI0 0 2)))] := hD
        refine lv_if_eq (tgt := 27) hx hb dX12_variable_22 (by decide) (fun c_13 => ?_) (fun c_13 => ?_)
        · skip
          exact absurd c_13 (by decide)
        · skip
          refine lv_iconst (v := 0) hx hb dX12_variable_25 (by decide) ?_
          have hP9 := hP.sub (ws' := [((a 0), .inr (12, zMo a (upd zI0 0 2)))]) [3] rfl
          have hD9 := hD.sub (ws' := [((a 0), .inr (12, zMo a (upd zI0 0 2)))]) [3] (by decide) rfl
          have hK9 := hK.sub (tys' := []) [] rfl
          refine W.widen (k := 0) (n := 0) (Nat.le_of_ble_eq_true rfl) (Nat.le_of_ble_eq_true rfl) ?_
          exact W.iret (v := 0) hx hb hr (fun t ht0 hW => ⟨⟨0, upd zI0 0 2, rfl, (show zS_variable p0 p1 2 0 from (.inr (.inl ⟨rfl, by omega⟩))), (zE_of hP9 hK9 hD9 ht0 hW)⟩, hS.F ht0⟩) hS.2.2 dX12_variable_26
  · skip
    have hPc := hP.sub (ws' := [((a 0), .inr (12, zMo a zI0))]) [0] rfl
    have hDc := hD.sub (ws' := [((a 0), .inr (12, zMo a zI0))]) [0] (by decide) rfl
    have hKc := hK.sub (tys' := []) [] rfl
    have hFc := va_free (wc := [((a 0), .inr (12, zMo a zI0))]) hD hS hA [0] rfl
    refine va_calli (va_runV (As := [.int 0]) (rest := []) ⟨hx, hb, hml, hown, ht⟩ (k_X12_lacks l _ D a zI0 0 (by decide)) (cwV 1 ht (zG_V zw_62 zw_63 zw_64 zw_2 zw_65) rfl rfl rfl (by decide +kernel) ⟨Nat.le_of_ble_eq_true rfl, Nat.le_of_ble_eq_true rfl⟩) (zM_V (va_recv hK hP (ci := 12) (q0 := 0) rfl rfl) hPc hKc hDc) rfl rfl hl.1 rfl (lv_room (Nat.le_of_ble_eq_true rfl)) dX12_variable_5 ⟨Nat.le_of_ble_eq_true rfl, Nat.le_of_ble_eq_true rfl⟩) hS (fun q _ h => hFc q h) hFc (fun r_14 u_14 t H1 locs ht0 hvm hw_14 hB hz1 hk1 hS => ?_)
    obtain ⟨rfl, rfl⟩ := hw_14.1 rfl
    obtain ⟨hP1, hK1, hD1⟩ := hB
    rw [ht0] at hP1
    have hK1 := va_K.moved hvm.symm hK1
    obtain ⟨hP, hD⟩ := va_join (wr := [((a 1), .inl (cI, 6792, .inl zI0)), ((a 2), .inl (cJ, 8, .inr (.inr (.inr (.inr fa))))), ((a 30), .inl (cI, 6792, .inl zI0))]) (w1 := [((a 0), .inr (12, zMo a (upd zI0 0 1)))]) hP hD [0] [1, 2, 3] rfl rfl (by decide) (by decide) hk1 hFc hP1 hD1
    generalize H1 = H at hP hS ⊢
    have hP : va_P D vwCl [((a 1), .inl (cI, 6792, .inl zI0)), ((a 2), .inl (cJ, 8, .inr (.inr (.inr (.inr fa))))), ((a 30), .inl (cI, 6792, .inl zI0)), ((a 0), .inr (12, zMo a (upd zI0 0 1)))] H := hP
    have hD : va_D A [((a 1), .inl (cI, 6792, .inl zI0)), ((a 2), .inl (cJ, 8, .inr (.inr (.inr (.inr fa))))), ((a 30), .inl (cI, 6792, .inl zI0)), ((a 0), .inr (12, zMo a (upd zI0 0 1)))] := hD
    refine lv_if_ne (tgt := 25) hx hb dX12_variable_8 (by decide) (fun c_15 => ?_) (fun c_15 => ?_)
    · skip
      refine lv_iconst (v := 0) hx hb dX12_variable_25 (by decide) ?_
      have hP9 := hP.sub (ws' := [((a 0), .inr (12, zMo a (upd zI0 0 1)))]) [3] rfl
      have hD9 := hD.sub (ws' := [((a 0), .inr (12, zMo a (upd zI0 0 1)))]) [3] (by decide) rfl
      have hK9 := hK.sub (tys' := []) [] rfl
      refine W.widen (k := 0) (n := 0) (Nat.le_of_ble_eq_true rfl) (Nat.le_of_ble_eq_true rfl) ?_
      exact W.iret (v := 0) hx hb hr (fun t ht0 hW => ⟨⟨0, upd zI0 0 1, rfl, (show zS_variable p0 p1 1 0 from (.inl ⟨rfl, by omega⟩)), (zE_of hP9 hK9 hD9 ht0 hW)⟩, hS.F ht0⟩) hS.2.2 dX12_variable_26
    · skip
      exact absurd c_15 (by decide)
set_option maxHeartbeats 4000000 in
set_option maxRecDepth 100000 in
theorem k_X12_areOpenHeld (l : Launch) (D : va_G) (a : Nat → Nat) (i : Nat → Int32) (cI : ClassId) (x : Int32) : Met l yX12_areOpenHeld (.code yX12_areOpenHeld cX12_areOpenHeld 4 (some .boolean) :: zT) ({ frames := 1, cells := 0, slots := 0, locals := 20 }) (va_Pc [.ref (a 0), .int x] (zR D [((a 0), .inr (12, zMo a i)), ((a 1), .inl (cI, 6792, .inl zI0))] [(cI, .int)])) (vp_Si (fun r => r = 1)) 0 0 (fun _ => False) := by
  refine Met.ofW (cc := cX12_areOpenHeld) (maxL := 4) (ret := (some .boolean)) (by decide) rfl ?_
  intro p e s m args below meth c s₁ B hml hv
  obtain ⟨rfl, hP, hK⟩ := hv
  have hx := B.exec
  have hb := B.bytes
  have hr := B.returns
  have hts := atoms_spec (ws := (.code yX12_areOpenHeld cX12_areOpenHeld 4 (some .boolean) :: zT)) B.pre
  have ht : ∀ w ∈ zT, w.before _ s = true := fun w h => hts w (List.mem_cons_of_mem _ h)
  have hown : s.vm.findClass RX12 = some m.cls := findClass_of_methodNamed B.named
  have hlocks := B.notSynchronized
  have hl := lv_entry ([.ref (a 0), .int x]) (n := 4) (Nat.le_of_ble_eq_true rfl)
  rw [lg_entry_eq]
  generalize (lg_sl ([.ref (a 0), .int x]) ++ List.replicate (4 - (lg_sl ([.ref (a 0), .int x])).length) Slot.unset).toArray = ls at hl ⊢
  have hl : lv_has ls 4 [(0, .ref (a 0)), (1, .int x)] := hl
  skip
  refine lv_iconst (v := 1) hx hb dX12_areOpenHeld_0 (by decide) ?_
  refine lv_istore_n (lv' := [(2, .int 1), (0, .ref (a 0)), (1, .int x)]) hx hb dX12_areOpenHeld_1 rfl hl (by decide) rfl (fun ls hl => ?_)
  refine lv_iconst (v := 0) hx hb dX12_areOpenHeld_2 (by decide) ?_
  refine lv_istore_n (lv' := [(3, .int 0), (2, .int 1), (0, .ref (a 0)), (1, .int x)]) hx hb dX12_areOpenHeld_3 rfl hl (by decide) rfl (fun ls hl => ?_)
  refine lv_iload_n hx hb dX12_areOpenHeld_4 rfl (lv_at hl 0 rfl) ?_
  refine lv_aload_n hx hb dX12_areOpenHeld_5 rfl (lv_at hl 2 rfl) ?_
  refine vp_callSi (va_runV (As := []) (rest := [.int 0]) ⟨hx, hb, hml, hown, ht⟩ (k_X12_openNow l D a i cI) (cwV 0 ht (zG_V zw_51 zw_52 zw_53 zw_2 zw_54) rfl rfl rfl (by decide +kernel) ⟨Nat.le_of_ble_eq_true rfl, Nat.le_of_ble_eq_true rfl⟩) (zR_V (va_recv hK hP (ci := 12) (q0 := 0) rfl rfl) hP hK) rfl rfl hl.1 rfl (lv_room (Nat.le_of_ble_eq_true rfl)) dX12_areOpenHeld_6 ⟨Nat.le_of_ble_eq_true rfl, Nat.le_of_ble_eq_true rfl⟩).run (fun r_1 hw_1 => ?_)
  obtain rfl : r_1 = 0 := hw_1
  refine lv_icmp_ge (tgt := 53) hx hb dX12_areOpenHeld_9 (by decide) (fun c_2 => ?_) (fun c_2 => ?_)
  · skip
    refine lv_iload_n hx hb dX12_areOpenHeld_53 rfl (lv_at hl 1 rfl) ?_
    refine W.widen (k := 0) (n := 0) (Nat.le_of_ble_eq_true rfl) (Nat.le_of_ble_eq_true rfl) ?_
    exact W.zret (v := 1) hx hb hr rfl (fun t ht hW => ⟨1, rfl, rfl, ht⟩) (fun q h => nomatch h) dX12_areOpenHeld_54
  · skip
    exact absurd c_2 (by decide)
set_option maxHeartbeats 4000000 in
set_option maxRecDepth 100000 in
theorem k_X12_errors (l : Launch) (sz : Nat) (D : va_G) (a : Nat → Nat) (cI : ClassId) : Met l yX12_errors (.code yX12_errors cX12_errors 9 (some .int) :: zT) ({ frames := 3, cells := 3, slots := 28, locals := 68 }) (va_Pc [.ref (a 0)] (zM D [((a 0), .inr (12, zMo a zI0)), ((a 1), .inl (cI, 6792, .inl zI0))] [(cI, .int)] sz)) (va_Qi (fun (r : Int32) (_ : Unit) => r = 0) (fun _ t => zE D [] [] (va_A [((a 0), .inr (12, zMo a zI0)), ((a 1), .inl (cI, 6792, .inl zI0))] sz) t) (va_A [((a 0), .inr (12, zMo a zI0)), ((a 1), .inl (cI, 6792, .inl zI0))] sz)) 3 28 (va_A [((a 0), .inr (12, zMo a zI0)), ((a 1), .inl (cI, 6792, .inl zI0))] sz) := by
  refine Met.ofW (cc := cX12_errors) (maxL := 9) (ret := (some .int)) (by decide) rfl ?_
  intro p e s m args below meth c s₁ B hml hv
  obtain ⟨rfl, hsz, hP, hK, hD0⟩ := hv
  have hx := B.exec
  have hb := B.bytes
  have hr := B.returns
  have hts := atoms_spec (ws := (.code yX12_errors cX12_errors 9 (some .int) :: zT)) B.pre
  have ht : ∀ w ∈ zT, w.before _ s = true := fun w h => hts w (List.mem_cons_of_mem _ h)
  have hown : s.vm.findClass RX12 = some m.cls := findClass_of_methodNamed B.named
  have hlocks := B.notSynchronized
  subst hsz
  have hD := hD0.self (sz := s.heap.size)
  generalize hAe : va_A [((a 0), .inr (12, zMo a zI0)), ((a 1), .inl (cI, 6792, .inl zI0))] s.heap.size = A at hD ⊢
  have hA : ∀ q : Nat, s.heap.size ≤ q → A q := fun q h => by rw [← hAe]; exact Or.inr h
  have hS : va_S A s.heap s.heap [] := va_S.rf
  have hP : va_P D vwCl [((a 0), .inr (12, zMo a zI0)), ((a 1), .inl (cI, 6792, .inl zI0))] s.heap := hP
  have hl := lv_entry ([.ref (a 0)]) (n := 9) (Nat.le_of_ble_eq_true rfl)
  rw [lg_entry_eq]
  generalize (lg_sl ([.ref (a 0)]) ++ List.replicate (9 - (lg_sl ([.ref (a 0)])).length) Slot.unset).toArray = ls at hl ⊢
  have hl : lv_has ls 9 [(0, .ref (a 0))] := hl
  skip
  refine lv_aload_n hx hb dX12_errors_0 rfl (lv_at hl 0 rfl) ?_
  refine lv_iconst (v := 0) hx hb dX12_errors_1 (by decide) ?_
  refine va_put (D := D) (ci := 12) (v := .int 0) (ty := .int) (C := RX12) (T := TX12) (N := 25) hx hb ht zinX12 tyX12 tyX12_ok nmX12 hown hK hP hD hS 0 rfl rfl 0 (by decide) (ht _ zw_29) (fun _ h9 => h9) rfl (by decide +kernel) rfl rfl (Nat.le_of_ble_eq_true rfl) dX12_errors_2 (fun H locs hP hD hS => ?_)
  have hP : va_P D vwCl [((a 0), .inr (12, zMo a (upd zI0 0 0))), ((a 1), .inl (cI, 6792, .inl zI0))] H := hP
  have hD : va_D A [((a 0), .inr (12, zMo a (upd zI0 0 0))), ((a 1), .inl (cI, 6792, .inl zI0))] := hD
  refine lv_bipush (v := 20) hx hb dX12_errors_5 (by decide) ?_
  refine va_newa (atype := .boolean) (a0 := (20, .inl (fun _ => 0))) hx hb (ht _ zw_137) rfl hK hP hD hS hA (fun _ => rfl) (by decide) rfl (Nat.le_of_ble_eq_true rfl) (Nat.le_of_ble_eq_true rfl) (Nat.le_of_ble_eq_true rfl) dX12_errors_7 (fun q_1 cA_1 H hK hP hD hS => ?_)
  have hP : va_P D vwCl [((a 0), .inr (12, zMo a (upd zI0 0 0))), ((a 1), .inl (cI, 6792, .inl zI0)), (q_1, .inl (cA_1, 20, .inl (fun _ => 0)))] H := hP
  have hD : va_D A [((a 0), .inr (12, zMo a (upd zI0 0 0))), ((a 1), .inl (cI, 6792, .inl zI0)), (q_1, .inl (cA_1, 20, .inl (fun _ => 0)))] := hD
  have hK : va_K D vwCl [(cI, .int), (cA_1, .boolean)] s := hK
  refine W.widen (k := 1) (n := 20) (Nat.le_of_ble_eq_true rfl) (Nat.le_of_ble_eq_true rfl) ?_
  refine lv_astore_n (lv' := [(1, .ref q_1), (0, .ref (a 0))]) hx hb dX12_errors_9 rfl hl (by decide) rfl (fun ls hl => ?_)
  refine lv_iconst (v := 4) hx hb dX12_errors_10 (by decide) ?_
  refine va_newa (atype := .boolean) (a0 := (4, .inl (fun _ => 0))) hx hb (ht _ zw_137) rfl hK hP hD hS hA (fun _ => rfl) (by decide) rfl (Nat.le_of_ble_eq_true rfl) (Nat.le_of_ble_eq_true rfl) (Nat.le_of_ble_eq_true rfl) dX12_errors_11 (fun q_2 cA_2 H hK hP hD hS => ?_)
  have hP : va_P D vwCl [((a 0), .inr (12, zMo a (upd zI0 0 0))), ((a 1), .inl (cI, 6792, .inl zI0)), (q_1, .inl (cA_1, 20, .inl (fun _ => 0))), (q_2, .inl (cA_2, 4, .inl (fun _ => 0)))] H := hP
  have hD : va_D A [((a 0), .inr (12, zMo a (upd zI0 0 0))), ((a 1), .inl (cI, 6792, .inl zI0)), (q_1, .inl (cA_1, 20, .inl (fun _ => 0))), (q_2, .inl (cA_2, 4, .inl (fun _ => 0)))] := hD
  have hK : va_K D vwCl [(cI, .int), (cA_1, .boolean), (cA_2, .boolean)] s := hK
  refine W.widen (k := 2) (n := 24) (Nat.le_of_ble_eq_true rfl) (Nat.le_of_ble_eq_true rfl) ?_
  refine lv_astore_n (lv' := [(2, .ref q_2), (1, .ref q_1), (0, .ref (a 0))]) hx hb dX12_errors_13 rfl hl (by decide) rfl (fun ls hl => ?_)
  refine lv_iconst (v := 4) hx hb dX12_errors_14 (by decide) ?_
  refine va_newa (atype := .int) (a0 := (4, .inl (fun _ => 0))) hx hb (ht _ zw_108) rfl hK hP hD hS hA (fun _ => rfl) (by decide) rfl (Nat.le_of_ble_eq_true rfl) (Nat.le_of_ble_eq_true rfl) (Nat.le_of_ble_eq_true rfl) dX12_errors_15 (fun q_3 cA_3 H hK hP hD hS => ?_)
  have hP : va_P D vwCl [((a 0), .inr (12, zMo a (upd zI0 0 0))), ((a 1), .inl (cI, 6792, .inl zI0)), (q_1, .inl (cA_1, 20, .inl (fun _ => 0))), (q_2, .inl (cA_2, 4, .inl (fun _ => 0))), (q_3, .inl (cA_3, 4, .inl (fun _ => 0)))] H := hP
  have hD : va_D A [((a 0), .inr (12, zMo a (upd zI0 0 0))), ((a 1), .inl (cI, 6792, .inl zI0)), (q_1, .inl (cA_1, 20, .inl (fun _ => 0))), (q_2, .inl (cA_2, 4, .inl (fun _ => 0))), (q_3, .inl (cA_3, 4, .inl (fun _ => 0)))] := hD
  have hK : va_K D vwCl [(cI, .int), (cA_1, .boolean), (cA_2, .boolean), (cA_3, .int)] s := hK
  refine W.widen (k := 3) (n := 28) (Nat.le_of_ble_eq_true rfl) (Nat.le_of_ble_eq_true rfl) ?_
  refine lv_astore_n (lv' := [(3, .ref q_3), (2, .ref q_2), (1, .ref q_1), (0, .ref (a 0))]) hx hb dX12_errors_17 rfl hl (by decide) rfl (fun ls hl => ?_)
  refine lv_iconst (v := 0) hx hb dX12_errors_18 (by decide) ?_
  refine lv_istore (lv' := [(4, .int 0), (3, .ref q_3), (2, .ref q_2), (1, .ref q_1), (0, .ref (a 0))]) hx hb dX12_errors_19 hl (by decide) rfl (fun ls hl => ?_)
  refine lv_iload hx hb dX12_errors_21 (lv_at hl 0 rfl) ?_
  refine lv_iconst (v := 4) hx hb dX12_errors_23 (by decide) ?_
  refine lv_icmp_ge (tgt := 47) hx hb dX12_errors_24 (by decide) (fun c_4 => ?_) (fun c_4 => ?_)
  · skip
    exact absurd c_4 (by decide)
  · skip
    refine lv_aload_n hx hb dX12_errors_27 rfl (lv_at hl 1 rfl) ?_
    refine lv_iload hx hb dX12_errors_28 (lv_at hl 0 rfl) ?_
    refine lv_aload_n hx hb dX12_errors_30 rfl (lv_at hl 4 rfl) ?_
    refine lv_iload hx hb dX12_errors_31 (lv_at hl 0 rfl) ?_
    refine lv_aload_n hx hb dX12_errors_33 rfl (lv_at hl 4 rfl) ?_
    refine vp_callSi (va_runV (As := []) (rest := [.int 0, .ref (a 0), .int 0, .ref q_3]) ⟨hx, hb, hml, hown, ht⟩ (k_X12_allOpen l D a (upd zI0 0 0) cI) (cwV 0 ht (zG_V zw_86 zw_87 zw_88 zw_2 zw_89) rfl rfl rfl (by decide +kernel) ⟨Nat.le_of_ble_eq_true rfl, Nat.le_of_ble_eq_true rfl⟩) (zR_V (va_recv hK hP (ci := 12) (q0 := 0) rfl rfl) (hP.sub (ws' := [((a 0), .inr (12, zMo a (upd zI0 0 0))), ((a 1), .inl (cI, 6792, .inl zI0))]) [0, 1] rfl) (hK.sub (tys' := [(cI, .int)]) [0] rfl)) rfl rfl hl.1 rfl (lv_room (Nat.le_of_ble_eq_true rfl)) dX12_errors_34 ⟨Nat.le_of_ble_eq_true rfl, Nat.le_of_ble_eq_true rfl⟩).run (fun r_5 hw_5 => ?_)
    obtain rfl : r_5 = 0 := hw_5
    refine vp_callSi (va_runV (As := [.int 0, .int 0]) (rest := [.int 0, .ref q_3]) ⟨hx, hb, hml, hown, ht⟩ (k_X12_relationOf l D a (upd zI0 0 0) cI 0 0 (by decide)) (cwV 2 ht (zG_V zw_55 zw_56 zw_57 zw_2 zw_58) rfl rfl rfl (by decide +kernel) ⟨Nat.le_of_ble_eq_true rfl, Nat.le_of_ble_eq_true rfl⟩) (zR_V (va_recv hK hP (ci := 12) (q0 := 0) rfl rfl) (hP.sub (ws' := [((a 0), .inr (12, zMo a (upd zI0 0 0))), ((a 1), .inl (cI, 6792, .inl zI0))]) [0, 1] rfl) (hK.sub (tys' := [(cI, .int)]) [0] rfl)) rfl rfl hl.1 rfl (lv_room (Nat.le_of_ble_eq_true rfl)) dX12_errors_37 ⟨Nat.le_of_ble_eq_true rfl, Nat.le_of_ble_eq_true rfl⟩).run (fun r_6 hw_6 => ?_)
    obtain rfl : r_6 = (-1) := hw_6
    refine va_iast hx hb hK hP hD hS 4 3 rfl rfl (vp_in_iff.mpr (by decide)) dX12_errors_40 (fun H locs hP hD hS => ?_)
    have hP : va_P D vwCl [((a 0), .inr (12, zMo a (upd zI0 0 0))), ((a 1), .inl (cI, 6792, .inl zI0)), (q_1, .inl (cA_1, 20, .inl (fun _ => 0))), (q_2, .inl (cA_2, 4, .inl (fun _ => 0))), (q_3, .inl (cA_3, 4, .inl (upd (fun _ => 0) 0 (-1))))] H := hP
    have hD : va_D A [((a 0), .inr (12, zMo a (upd zI0 0 0))), ((a 1), .inl (cI, 6792, .inl zI0)), (q_1, .inl (cA_1, 20, .inl (fun _ => 0))), (q_2, .inl (cA_2, 4, .inl (fun _ => 0))), (q_3, .inl (cA_3, 4, .inl (upd (fun _ => 0) 0 (-1))))] := hD
    refine lv_iinc (v := 1) (lv' := [(4, .int 1), (3, .ref q_3), (2, .ref q_2), (1, .ref q_1), (0, .ref (a 0))]) hx hb dX12_errors_41 hl (k := 0) rfl (by decide) (by decide) rfl (fun ls hl => ?_)
    refine lv_goto (tgt := 21) hx hb dX12_errors_44 (by decide) ?_
    refine lv_iload hx hb dX12_errors_21 (lv_at hl 0 rfl) ?_
    refine lv_iconst (v := 4) hx hb dX12_errors_23 (by decide) ?_
    refine lv_icmp_ge (tgt := 47) hx hb dX12_errors_24 (by decide) (fun c_8 => ?_) (fun c_8 => ?_)
    · skip
      exact absurd c_8 (by decide)
    · skip
      refine lv_aload_n hx hb dX12_errors_27 rfl (lv_at hl 1 rfl) ?_
      refine lv_iload hx hb dX12_errors_28 (lv_at hl 0 rfl) ?_
      refine lv_aload_n hx hb dX12_errors_30 rfl (lv_at hl 4 rfl) ?_
      refine lv_iload hx hb dX12_errors_31 (lv_at hl 0 rfl) ?_
      refine lv_aload_n hx hb dX12_errors_33 rfl (lv_at hl 4 rfl) ?_
      refine vp_callSi (va_runV (As := []) (rest := [.int 1, .ref (a 0), .int 1, .ref q_3]) ⟨hx, hb, hml, hown, ht⟩ (k_X12_allOpen l D a (upd zI0 0 0) cI) (cwV 0 ht (zG_V zw_86 zw_87 zw_88 zw_2 zw_89) rfl rfl rfl (by decide +kernel) ⟨Nat.le_of_ble_eq_true rfl, Nat.le_of_ble_eq_true rfl⟩) (zR_V (va_recv hK hP (ci := 12) (q0 := 0) rfl rfl) (hP.sub (ws' := [((a 0), .inr (12, zMo a (upd zI0 0 0))), ((a 1), .inl (cI, 6792, .inl zI0))]) [0, 1] rfl) (hK.sub (tys' := [(cI, .int)]) [0] rfl)) rfl rfl hl.1 rfl (lv_room (Nat.le_of_ble_eq_true rfl)) dX12_errors_34 ⟨Nat.le_of_ble_eq_true rfl, Nat.le_of_ble_eq_true rfl⟩).run (fun r_9 hw_9 => ?_)
      obtain rfl : r_9 = 0 := hw_9
      refine vp_callSi (va_runV (As := [.int 1, .int 0]) (rest := [.int 1, .ref q_3]) ⟨hx, hb, hml, hown, ht⟩ (k_X12_relationOf l D a (upd zI0 0 0) cI 1 0 (by decide)) (cwV 2 ht (zG_V zw_55 zw_56 zw_57 zw_2 zw_58) rfl rfl rfl (by decide +kernel) ⟨Nat.le_of_ble_eq_true rfl, Nat.le_of_ble_eq_true rfl⟩) (zR_V (va_recv hK hP (ci := 12) (q0 := 0) rfl rfl) (hP.sub (ws' := [((a 0), .inr (12, zMo a (upd zI0 0 0))), ((a 1), .inl (cI, 6792, .inl zI0))]) [0, 1] rfl) (hK.sub (tys' := [(cI, .int)]) [0] rfl)) rfl rfl hl.1 rfl (lv_room (Nat.le_of_ble_eq_true rfl)) dX12_errors_37 ⟨Nat.le_of_ble_eq_true rfl, Nat.le_of_ble_eq_true rfl⟩).run (fun r_10 hw_10 => ?_)
      obtain rfl : r_10 = (-1) := hw_10
      refine va_iast hx hb hK hP hD hS 4 3 rfl rfl (vp_in_iff.mpr (by decide)) dX12_errors_40 (fun H locs hP hD hS => ?_)
      have hP : va_P D vwCl [((a 0), .inr (12, zMo a (upd zI0 0 0))), ((a 1), .inl (cI, 6792, .inl zI0)), (q_1, .inl (cA_1, 20, .inl (fun _ => 0))), (q_2, .inl (cA_2, 4, .inl (fun _ => 0))), (q_3, .inl (cA_3, 4, .inl (upd (upd (fun _ => 0) 0 (-1)) 1 (-1))))] H := hP
      have hD : va_D A [((a 0), .inr (12, zMo a (upd zI0 0 0))), ((a 1), .inl (cI, 6792, .inl zI0)), (q_1, .inl (cA_1, 20, .inl (fun _ => 0))), (q_2, .inl (cA_2, 4, .inl (fun _ => 0))), (q_3, .inl (cA_3, 4, .inl (upd (upd (fun _ => 0) 0 (-1)) 1 (-1))))] := hD
      refine lv_iinc (v := 2) (lv' := [(4, .int 2), (3, .ref q_3), (2, .ref q_2), (1, .ref q_1), (0, .ref (a 0))]) hx hb dX12_errors_41 hl (k := 0) rfl (by decide) (by decide) rfl (fun ls hl => ?_)
      refine lv_goto (tgt := 21) hx hb dX12_errors_44 (by decide) ?_
      refine lv_iload hx hb dX12_errors_21 (lv_at hl 0 rfl) ?_
      refine lv_iconst (v := 4) hx hb dX12_errors_23 (by decide) ?_
      refine lv_icmp_ge (tgt := 47) hx hb dX12_errors_24 (by decide) (fun c_12 => ?_) (fun c_12 => ?_)
      · skip
        exact absurd c_12 (by decide)
      · skip
        refine lv_aload_n hx hb dX12_errors_27 rfl (lv_at hl 1 rfl) ?_
        refine lv_iload hx hb dX12_errors_28 (lv_at hl 0 rfl) ?_
        refine lv_aload_n hx hb dX12_errors_30 rfl (lv_at hl 4 rfl) ?_
        refine lv_iload hx hb dX12_errors_31 (lv_at hl 0 rfl) ?_
        refine lv_aload_n hx hb dX12_errors_33 rfl (lv_at hl 4 rfl) ?_
        refine vp_callSi (va_runV (As := []) (rest := [.int 2, .ref (a 0), .int 2, .ref q_3]) ⟨hx, hb, hml, hown, ht⟩ (k_X12_allOpen l D a (upd zI0 0 0) cI) (cwV 0 ht (zG_V zw_86 zw_87 zw_88 zw_2 zw_89) rfl rfl rfl (by decide +kernel) ⟨Nat.le_of_ble_eq_true rfl, Nat.le_of_ble_eq_true rfl⟩) (zR_V (va_recv hK hP (ci := 12) (q0 := 0) rfl rfl) (hP.sub (ws' := [((a 0), .inr (12, zMo a (upd zI0 0 0))), ((a 1), .inl (cI, 6792, .inl zI0))]) [0, 1] rfl) (hK.sub (tys' := [(cI, .int)]) [0] rfl)) rfl rfl hl.1 rfl (lv_room (Nat.le_of_ble_eq_true rfl)) dX12_errors_34 ⟨Nat.le_of_ble_eq_true rfl, Nat.le_of_ble_eq_true rfl⟩).run (fun r_13 hw_13 => ?_)
        obtain rfl : r_13 = 0 := hw_13
        refine vp_callSi (va_runV (As := [.int 2, .int 0]) (rest := [.int 2, .ref q_3]) ⟨hx, hb, hml, hown, ht⟩ (k_X12_relationOf l D a (upd zI0 0 0) cI 2 0 (by decide)) (cwV 2 ht (zG_V zw_55 zw_56 zw_57 zw_2 zw_58) rfl rfl rfl (by decide +kernel) ⟨Nat.le_of_ble_eq_true rfl, Nat.le_of_ble_eq_true rfl⟩) (zR_V (va_recv hK hP (ci := 12) (q0 := 0) rfl rfl) (hP.sub (ws' := [((a 0), .inr (12, zMo a (upd zI0 0 0))), ((a 1), .inl (cI, 6792, .inl zI0))]) [0, 1] rfl) (hK.sub (tys' := [(cI, .int)]) [0] rfl)) rfl rfl hl.1 rfl (lv_room (Nat.le_of_ble_eq_true rfl)) dX12_errors_37 ⟨Nat.le_of_ble_eq_true rfl, Nat.le_of_ble_eq_true rfl⟩).run (fun r_14 hw_14 => ?_)
        obtain rfl : r_14 = (-1) := hw_14
        refine va_iast hx hb hK hP hD hS 4 3 rfl rfl (vp_in_iff.mpr (by decide)) dX12_errors_40 (fun H locs hP hD hS => ?_)
        have hP : va_P D vwCl [((a 0), .inr (12, zMo a (upd zI0 0 0))), ((a 1), .inl (cI, 6792, .inl zI0)), (q_1, .inl (cA_1, 20, .inl (fun _ => 0))), (q_2, .inl (cA_2, 4, .inl (fun _ => 0))), (q_3, .inl (cA_3, 4, .inl (upd (upd (upd (fun _ => 0) 0 (-1)) 1 (-1)) 2 (-1))))] H := hP
        have hD : va_D A [((a 0), .inr (12, zMo a (upd zI0 0 0))), ((a 1), .inl (cI, 6792, .inl zI0)), (q_1, .inl (cA_1, 20, .inl (fun _ => 0))), (q_2, .inl (cA_2, 4, .inl (fun _ => 0))), (q_3, .inl (cA_3, 4, .inl (upd (upd (upd (fun _ => 0) 0 (-1)) 1 (-1)) 2 (-1))))] := hD
        refine lv_iinc (v := 3) (lv' := [(4, .int 3), (3, .ref q_3), (2, .ref q_2), (1, .ref q_1), (0, .ref (a 0))]) hx hb dX12_errors_41 hl (k := 0) rfl (by decide) (by decide) rfl (fun ls hl => ?_)
        refine lv_goto (tgt := 21) hx hb dX12_errors_44 (by decide) ?_
        refine lv_iload hx hb dX12_errors_21 (lv_at hl 0 rfl) ?_
        refine lv_iconst (v := 4) hx hb dX12_errors_23 (by decide) ?_
        refine lv_icmp_ge (tgt := 47) hx hb dX12_errors_24 (by decide) (fun c_16 => ?_) (fun c_16 => ?_)
        · skip
          exact absurd c_16 (by decide)
        · skip
          refine lv_aload_n hx hb dX12_errors_27 rfl (lv_at hl 1 rfl) ?_
          refine lv_iload hx hb dX12_errors_28 (lv_at hl 0 rfl) ?_
          refine lv_aload_n hx hb dX12_errors_30 rfl (lv_at hl 4 rfl) ?_
          refine lv_iload hx hb dX12_errors_31 (lv_at hl 0 rfl) ?_
          refine lv_aload_n hx hb dX12_errors_33 rfl (lv_at hl 4 rfl) ?_
          refine vp_callSi (va_runV (As := []) (rest := [.int 3, .ref (a 0), .int 3, .ref q_3]) ⟨hx, hb, hml, hown, ht⟩ (k_X12_allOpen l D a (upd zI0 0 0) cI) (cwV 0 ht (zG_V zw_86 zw_87 zw_88 zw_2 zw_89) rfl rfl rfl (by decide +kernel) ⟨Nat.le_of_ble_eq_true rfl, Nat.le_of_ble_eq_true rfl⟩) (zR_V (va_recv hK hP (ci := 12) (q0 := 0) rfl rfl) (hP.sub (ws' := [((a 0), .inr (12, zMo a (upd zI0 0 0))), ((a 1), .inl (cI, 6792, .inl zI0))]) [0, 1] rfl) (hK.sub (tys' := [(cI, .int)]) [0] rfl)) rfl rfl hl.1 rfl (lv_room (Nat.le_of_ble_eq_true rfl)) dX12_errors_34 ⟨Nat.le_of_ble_eq_true rfl, Nat.le_of_ble_eq_true rfl⟩).run (fun r_17 hw_17 => ?_)
          obtain rfl : r_17 = 0 := hw_17
          refine vp_callSi (va_runV (As := [.int 3, .int 0]) (rest := [.int 3, .ref q_3]) ⟨hx, hb, hml, hown, ht⟩ (k_X12_relationOf l D a (upd zI0 0 0) cI 3 0 (by decide)) (cwV 2 ht (zG_V zw_55 zw_56 zw_57 zw_2 zw_58) rfl rfl rfl (by decide +kernel) ⟨Nat.le_of_ble_eq_true rfl, Nat.le_of_ble_eq_true rfl⟩) (zR_V (va_recv hK hP (ci := 12) (q0 := 0) rfl rfl) (hP.sub (ws' := [((a 0), .inr (12, zMo a (upd zI0 0 0))), ((a 1), .inl (cI, 6792, .inl zI0))]) [0, 1] rfl) (hK.sub (tys' := [(cI, .int)]) [0] rfl)) rfl rfl hl.1 rfl (lv_room (Nat.le_of_ble_eq_true rfl)) dX12_errors_37 ⟨Nat.le_of_ble_eq_true rfl, Nat.le_of_ble_eq_true rfl⟩).run (fun r_18 hw_18 => ?_)
          obtain rfl : r_18 = (-1) := hw_18
          refine va_iast hx hb hK hP hD hS 4 3 rfl rfl (vp_in_iff.mpr (by decide)) dX12_errors_40 (fun H locs hP hD hS => ?_)
          have hP : va_P D vwCl [((a 0), .inr (12, zMo a (upd zI0 0 0))), ((a 1), .inl (cI, 6792, .inl zI0)), (q_1, .inl (cA_1, 20, .inl (fun _ => 0))), (q_2, .inl (cA_2, 4, .inl (fun _ => 0))), (q_3, .inl (cA_3, 4, .inl (upd (upd (upd (upd (fun _ => 0) 0 (-1)) 1 (-1)) 2 (-1)) 3 (-1))))] H := hP
          have hD : va_D A [((a 0), .inr (12, zMo a (upd zI0 0 0))), ((a 1), .inl (cI, 6792, .inl zI0)), (q_1, .inl (cA_1, 20, .inl (fun _ => 0))), (q_2, .inl (cA_2, 4, .inl (fun _ => 0))), (q_3, .inl (cA_3, 4, .inl (upd (upd (upd (upd (fun _ => 0) 0 (-1)) 1 (-1)) 2 (-1)) 3 (-1))))] := hD
          refine lv_iinc (v := 4) (lv' := [(4, .int 4), (3, .ref q_3), (2, .ref q_2), (1, .ref q_1), (0, .ref (a 0))]) hx hb dX12_errors_41 hl (k := 0) rfl (by decide) (by decide) rfl (fun ls hl => ?_)
          refine lv_goto (tgt := 21) hx hb dX12_errors_44 (by decide) ?_
          refine lv_iload hx hb dX12_errors_21 (lv_at hl 0 rfl) ?_
          refine lv_iconst (v := 4) hx hb dX12_errors_23 (by decide) ?_
          refine lv_icmp_ge (tgt := 47) hx hb dX12_errors_24 (by decide) (fun c_20 => ?_) (fun c_20 => ?_)
          · skip
            refine lv_iconst (v := 0) hx hb dX12_errors_47 (by decide) ?_
            refine lv_istore (lv' := [(4, .int 0), (3, .ref q_3), (2, .ref q_2), (1, .ref q_1), (0, .ref (a 0))]) hx hb dX12_errors_48 hl (by decide) rfl (fun ls hl => ?_)
            have hloop_21 : ∀ (n_21 : Nat) (x4 : Int32) (f : Nat → Int32), 0 ≤ x4.toInt → x4.toInt ≤ 65536 → 65536 - x4.toInt < n_21 → (∀ j : Nat, f j = 0) → ∀ (H : Heap) (locs : List Loc), va_P D vwCl [((a 0), .inr (12, zMo a (upd zI0 0 0))), ((a 1), .inl (cI, 6792, .inl zI0)), (q_1, .inl (cA_1, 20, .inl (fun _ => 0))), (q_2, .inl (cA_2, 4, .inl f)), (q_3, .inl (cA_3, 4, .inl (upd (upd (upd (upd (fun _ => 0) 0 (-1)) 1 (-1)) 2 (-1)) 3 (-1))))] H → va_D A [((a 0), .inr (12, zMo a (upd zI0 0 0))), ((a 1), .inl (cI, 6792, .inl zI0)), (q_1, .inl (cA_1, 20, .inl (fun _ => 0))), (q_2, .inl (cA_2, 4, .inl f)), (q_3, .inl (cA_3, 4, .inl (upd (upd (upd (upd (fun _ => 0) 0 (-1)) 1 (-1)) 2 (-1)) 3 (-1))))] → va_S A s.heap H locs → ∀ (ls : Array Slot), lv_has ls 9 [(4, .int x4), (3, .ref q_3), (2, .ref q_2), (1, .ref q_1), (0, .ref (a 0))] → W p l e (headSpec (.code yX12_errors cX12_errors 9 (some .int) :: zT) ({ frames := 3, cells := 3, slots := 28, locals := 68 })).room s m (([.ref (a 0)] : List Value)).toArray below meth c H locs 3 28 (MQ below (va_Qi (fun (r : Int32) (_ : Unit) => r = 0) (fun _ t => zE D [] [] A t) A) (([.ref (a 0)] : List Value)).toArray s 3 28 A) (F0 m 50 ls []) := by
              intro n_21
              induction n_21 with
              | zero => intro x4 f hx0 hx1 hx2; intros; exfalso; omega
              | succ n_21 ih_21 =>
                intro x4 f hlo_21 hhi_21 hms_21 hf H locs hP hD hS ls hl
                refine lv_iload hx hb dX12_errors_50 (lv_at hl 0 rfl) ?_
                refine lv_ldcw (v := 65536) hx hb hown (ht _ zw_111) dX12_errors_52 ?_
                refine lv_icmp_ge (tgt := 196) hx hb dX12_errors_55 (by decide) (fun c_22 => ?_) (fun c_22 => ?_)
                · skip
                  simp only [fa_lt, fa_le, fa_eq, Int32.reduceToInt] at c_22
                  refine lv_iconst (v := 0) hx hb dX12_errors_196 (by decide) ?_
                  refine lv_istore (lv' := [(4, .int 0), (3, .ref q_3), (2, .ref q_2), (1, .ref q_1), (0, .ref (a 0))]) hx hb dX12_errors_197 hl (by decide) rfl (fun ls hl => ?_)
                  refine lv_iconst (v := 0) hx hb dX12_errors_199 (by decide) ?_
                  refine lv_istore (lv' := [(5, .int 0), (4, .int 0), (3, .ref q_3), (2, .ref q_2), (1, .ref q_1), (0, .ref (a 0))]) hx hb dX12_errors_200 hl (by decide) rfl (fun ls hl => ?_)
                  refine lv_iload hx hb dX12_errors_202 (lv_at hl 0 rfl) ?_
                  refine lv_aload_n hx hb dX12_errors_204 rfl (lv_at hl 5 rfl) ?_
                  refine vp_callSi (va_runV (As := []) (rest := [.int 0]) ⟨hx, hb, hml, hown, ht⟩ (k_X12_lawsNow l D a (upd zI0 0 0) cI) (cwV 0 ht (zG_V zw_39 zw_40 zw_41 zw_2 zw_42) rfl rfl rfl (by decide +kernel) ⟨Nat.le_of_ble_eq_true rfl, Nat.le_of_ble_eq_true rfl⟩) (zR_V (va_recv hK hP (ci := 12) (q0 := 0) rfl rfl) (hP.sub (ws' := [((a 0), .inr (12, zMo a (upd zI0 0 0))), ((a 1), .inl (cI, 6792, .inl zI0))]) [0, 1] rfl) (hK.sub (tys' := [(cI, .int)]) [0] rfl)) rfl rfl hl.1 rfl (lv_room (Nat.le_of_ble_eq_true rfl)) dX12_errors_205 ⟨Nat.le_of_ble_eq_true rfl, Nat.le_of_ble_eq_true rfl⟩).run (fun r_23 hw_23 => ?_)
                  obtain rfl : r_23 = 0 := hw_23
                  refine lv_icmp_ge (tgt := 277) hx hb dX12_errors_208 (by decide) (fun c_24 => ?_) (fun c_24 => ?_)
                  · skip
                    refine lv_aload_n hx hb dX12_errors_277 rfl (lv_at hl 3 rfl) ?_
                    refine lv_astore (lv' := [(5, .ref q_2), (4, .int 0), (3, .ref q_3), (2, .ref q_2), (1, .ref q_1), (0, .ref (a 0))]) hx hb dX12_errors_278 hl (by decide) rfl (fun ls hl => ?_)
                    refine lv_aload hx hb dX12_errors_280 (lv_at hl 0 rfl) ?_
                    refine va_alen (v := 4) hx hb hK hP 3 2 rfl rfl rfl dX12_errors_282 ?_
                    refine lv_istore (lv' := [(6, .int 4), (5, .ref q_2), (4, .int 0), (3, .ref q_3), (2, .ref q_2), (1, .ref q_1), (0, .ref (a 0))]) hx hb dX12_errors_283 hl (by decide) rfl (fun ls hl => ?_)
                    refine lv_iconst (v := 0) hx hb dX12_errors_285 (by decide) ?_
                    refine lv_istore (lv' := [(7, .int 0), (6, .int 4), (5, .ref q_2), (4, .int 0), (3, .ref q_3), (2, .ref q_2), (1, .ref q_1), (0, .ref (a 0))]) hx hb dX12_errors_286 hl (by decide) rfl (fun ls hl => ?_)
                    refine lv_iload hx hb dX12_errors_288 (lv_at hl 0 rfl) ?_
                    refine lv_iload hx hb dX12_errors_290 (lv_at hl 1 rfl) ?_
                    refine lv_icmp_ge (tgt := 323) hx hb dX12_errors_292 (by decide) (fun c_25 => ?_) (fun c_25 => ?_)
                    · skip
                      exact absurd c_25 (by decide)
                    · skip
                      refine lv_aload hx hb dX12_errors_295 (lv_at hl 2 rfl) ?_
                      refine lv_iload hx hb dX12_errors_297 (lv_at hl 0 rfl) ?_
                      refine va_zald hx hb hK hP 3 2 rfl rfl (vp_in_iff.mpr (by decide)) dX12_errors_299 ?_
                      refine W.eq (g2 := F0 m 300 ls (.int 0 :: [])) (by show F0 m _ ls (.int (f 0) :: _) = _; rw [hf 0]) ?_
                      refine lv_istore (lv' := [(8, .int 0), (7, .int 0), (6, .int 4), (5, .ref q_2), (4, .int 0), (3, .ref q_3), (2, .ref q_2), (1, .ref q_1), (0, .ref (a 0))]) hx hb dX12_errors_300 hl (by decide) rfl (fun ls hl => ?_)
                      refine lv_iload hx hb dX12_errors_302 (lv_at hl 4 rfl) ?_
                      refine lv_iload hx hb dX12_errors_304 (lv_at hl 0 rfl) ?_
                      refine lv_if_eq (tgt := 313) hx hb dX12_errors_306 (by decide) (fun c_27 => ?_) (fun c_27 => ?_)
                      · skip
                        refine lv_iconst (v := 0) hx hb dX12_errors_313 (by decide) ?_
                        refine lv_iadd hx hb dX12_errors_314 ?_
                        refine lv_topi (fun x_28 e_28 => ?_)
                        obtain rfl : x_28 = 0 := e_28.trans (by decide)
                        refine lv_istore (lv' := [(4, .int 0), (8, .int 0), (7, .int 0), (6, .int 4), (5, .ref q_2), (3, .ref q_3), (2, .ref q_2), (1, .ref q_1), (0, .ref (a 0))]) hx hb dX12_errors_315 hl (by decide) rfl (fun ls hl => ?_)
                        refine lv_iinc (v := 1) (lv' := [(7, .int 1), (4, .int 0), (8, .int 0), (6, .int 4), (5, .ref q_2), (3, .ref q_3), (2, .ref q_2), (1, .ref q_1), (0, .ref (a 0))]) hx hb dX12_errors_317 hl (k := 2) rfl (by decide) (by decide) rfl (fun ls hl => ?_)
                        refine lv_goto (tgt := 288) hx hb dX12_errors_320 (by decide) ?_
                        refine lv_iload hx hb dX12_errors_288 (lv_at hl 0 rfl) ?_
                        refine lv_iload hx hb dX12_errors_290 (lv_at hl 3 rfl) ?_
                        refine lv_icmp_ge (tgt := 323) hx hb dX12_errors_292 (by decide) (fun c_30 => ?_) (fun c_30 => ?_)
                        · skip
                          exact absurd c_30 (by decide)
                        · skip
                          refine lv_aload hx hb dX12_errors_295 (lv_at hl 4 rfl) ?_
                          refine lv_iload hx hb dX12_errors_297 (lv_at hl 0 rfl) ?_
                          refine va_zald hx hb hK hP 3 2 rfl rfl (vp_in_iff.mpr (by decide)) dX12_errors_299 ?_
                          refine W.eq (g2 := F0 m 300 ls (.int 0 :: [])) (by show F0 m _ ls (.int (f 1) :: _) = _; rw [hf 1]) ?_
                          refine lv_istore (lv' := [(8, .int 0), (7, .int 1), (4, .int 0), (6, .int 4), (5, .ref q_2), (3, .ref q_3), (2, .ref q_2), (1, .ref q_1), (0, .ref (a 0))]) hx hb dX12_errors_300 hl (by decide) rfl (fun ls hl => ?_)
                          refine lv_iload hx hb dX12_errors_302 (lv_at hl 2 rfl) ?_
                          refine lv_iload hx hb dX12_errors_304 (lv_at hl 0 rfl) ?_
                          refine lv_if_eq (tgt := 313) hx hb dX12_errors_306 (by decide) (fun c_32 => ?_) (fun c_32 => ?_)
                          · skip
                            refine lv_iconst (v := 0) hx hb dX12_errors_313 (by decide) ?_
                            refine lv_iadd hx hb dX12_errors_314 ?_
                            refine lv_topi (fun x_33 e_33 => ?_)
                            obtain rfl : x_33 = 0 := e_33.trans (by decide)
                            refine lv_istore (lv' := [(4, .int 0), (8, .int 0), (7, .int 1), (6, .int 4), (5, .ref q_2), (3, .ref q_3), (2, .ref q_2), (1, .ref q_1), (0, .ref (a 0))]) hx hb dX12_errors_315 hl (by decide) rfl (fun ls hl => ?_)
                            refine lv_iinc (v := 2) (lv' := [(7, .int 2), (4, .int 0), (8, .int 0), (6, .int 4), (5, .ref q_2), (3, .ref q_3), (2, .ref q_2), (1, .ref q_1), (0, .ref (a 0))]) hx hb dX12_errors_317 hl (k := 2) rfl (by decide) (by decide) rfl (fun ls hl => ?_)
                            refine lv_goto (tgt := 288) hx hb dX12_errors_320 (by decide) ?_
                            refine lv_iload hx hb dX12_errors_288 (lv_at hl 0 rfl) ?_
                            refine lv_iload hx hb dX12_errors_290 (lv_at hl 3 rfl) ?_
                            refine lv_icmp_ge (tgt := 323) hx hb dX12_errors_292 (by decide) (fun c_35 => ?_) (fun c_35 => ?_)
                            · skip
                              exact absurd c_35 (by decide)
                            · skip
                              refine lv_aload hx hb dX12_errors_295 (lv_at hl 4 rfl) ?_
                              refine lv_iload hx hb dX12_errors_297 (lv_at hl 0 rfl) ?_
                              refine va_zald hx hb hK hP 3 2 rfl rfl (vp_in_iff.mpr (by decide)) dX12_errors_299 ?_
                              refine W.eq (g2 := F0 m 300 ls (.int 0 :: [])) (by show F0 m _ ls (.int (f 2) :: _) = _; rw [hf 2]) ?_
                              refine lv_istore (lv' := [(8, .int 0), (7, .int 2), (4, .int 0), (6, .int 4), (5, .ref q_2), (3, .ref q_3), (2, .ref q_2), (1, .ref q_1), (0, .ref (a 0))]) hx hb dX12_errors_300 hl (by decide) rfl (fun ls hl => ?_)
                              refine lv_iload hx hb dX12_errors_302 (lv_at hl 2 rfl) ?_
                              refine lv_iload hx hb dX12_errors_304 (lv_at hl 0 rfl) ?_
                              refine lv_if_eq (tgt := 313) hx hb dX12_errors_306 (by decide) (fun c_37 => ?_) (fun c_37 => ?_)
                              · skip
                                refine lv_iconst (v := 0) hx hb dX12_errors_313 (by decide) ?_
                                refine lv_iadd hx hb dX12_errors_314 ?_
                                refine lv_topi (fun x_38 e_38 => ?_)
                                obtain rfl : x_38 = 0 := e_38.trans (by decide)
                                refine lv_istore (lv' := [(4, .int 0), (8, .int 0), (7, .int 2), (6, .int 4), (5, .ref q_2), (3, .ref q_3), (2, .ref q_2), (1, .ref q_1), (0, .ref (a 0))]) hx hb dX12_errors_315 hl (by decide) rfl (fun ls hl => ?_)
                                refine lv_iinc (v := 3) (lv' := [(7, .int 3), (4, .int 0), (8, .int 0), (6, .int 4), (5, .ref q_2), (3, .ref q_3), (2, .ref q_2), (1, .ref q_1), (0, .ref (a 0))]) hx hb dX12_errors_317 hl (k := 2) rfl (by decide) (by decide) rfl (fun ls hl => ?_)
                                refine lv_goto (tgt := 288) hx hb dX12_errors_320 (by decide) ?_
                                refine lv_iload hx hb dX12_errors_288 (lv_at hl 0 rfl) ?_
                                refine lv_iload hx hb dX12_errors_290 (lv_at hl 3 rfl) ?_
                                refine lv_icmp_ge (tgt := 323) hx hb dX12_errors_292 (by decide) (fun c_40 => ?_) (fun c_40 => ?_)
                                · skip
                                  exact absurd c_40 (by decide)
                                · skip
                                  refine lv_aload hx hb dX12_errors_295 (lv_at hl 4 rfl) ?_
                                  refine lv_iload hx hb dX12_errors_297 (lv_at hl 0 rfl) ?_
                                  refine va_zald hx hb hK hP 3 2 rfl rfl (vp_in_iff.mpr (by decide)) dX12_errors_299 ?_
                                  refine W.eq (g2 := F0 m 300 ls (.int 0 :: [])) (by show F0 m _ ls (.int (f 3) :: _) = _; rw [hf 3]) ?_
                                  refine lv_istore (lv' := [(8, .int 0), (7, .int 3), (4, .int 0), (6, .int 4), (5, .ref q_2), (3, .ref q_3), (2, .ref q_2), (1, .ref q_1), (0, .ref (a 0))]) hx hb dX12_errors_300 hl (by decide) rfl (fun ls hl => ?_)
                                  refine lv_iload hx hb dX12_errors_302 (lv_at hl 2 rfl) ?_
                                  refine lv_iload hx hb dX12_errors_304 (lv_at hl 0 rfl) ?_
                                  refine lv_if_eq (tgt := 313) hx hb dX12_errors_306 (by decide) (fun c_42 => ?_) (fun c_42 => ?_)
                                  · skip
                                    refine lv_iconst (v := 0) hx hb dX12_errors_313 (by decide) ?_
                                    refine lv_iadd hx hb dX12_errors_314 ?_
                                    refine lv_topi (fun x_43 e_43 => ?_)
                                    obtain rfl : x_43 = 0 := e_43.trans (by decide)
                                    refine lv_istore (lv' := [(4, .int 0), (8, .int 0), (7, .int 3), (6, .int 4), (5, .ref q_2), (3, .ref q_3), (2, .ref q_2), (1, .ref q_1), (0, .ref (a 0))]) hx hb dX12_errors_315 hl (by decide) rfl (fun ls hl => ?_)
                                    refine lv_iinc (v := 4) (lv' := [(7, .int 4), (4, .int 0), (8, .int 0), (6, .int 4), (5, .ref q_2), (3, .ref q_3), (2, .ref q_2), (1, .ref q_1), (0, .ref (a 0))]) hx hb dX12_errors_317 hl (k := 2) rfl (by decide) (by decide) rfl (fun ls hl => ?_)
                                    refine lv_goto (tgt := 288) hx hb dX12_errors_320 (by decide) ?_
                                    refine lv_iload hx hb dX12_errors_288 (lv_at hl 0 rfl) ?_
                                    refine lv_iload hx hb dX12_errors_290 (lv_at hl 3 rfl) ?_
                                    refine lv_icmp_ge (tgt := 323) hx hb dX12_errors_292 (by decide) (fun c_45 => ?_) (fun c_45 => ?_)
                                    · skip
                                      refine lv_iload hx hb dX12_errors_323 (lv_at hl 1 rfl) ?_
                                      have hP9 := hP.sub (ws' := []) [] rfl
                                      have hD9 := hD.sub (ws' := []) [] (by decide) rfl
                                      have hK9 := hK.sub (tys' := []) [] rfl
                                      refine W.widen (k := 3) (n := 28) (Nat.le_of_ble_eq_true rfl) (Nat.le_of_ble_eq_true rfl) ?_
                                      exact W.iret (v := 0) hx hb hr (fun t ht0 hW => ⟨⟨0, (), rfl, rfl, (zE_of hP9 hK9 hD9 ht0 hW)⟩, hS.F ht0⟩) hS.2.2 dX12_errors_325
                                    · skip
                                      exact absurd c_45 (by decide)
                                  · skip
                                    exact absurd c_42 (by decide)
                              · skip
                                exact absurd c_37 (by decide)
                          · skip
                            exact absurd c_32 (by decide)
                      · skip
                        exact absurd c_27 (by decide)
                  · skip
                    exact absurd c_24 (by decide)
                · skip
                  simp only [fa_lt, fa_le, fa_eq, Int32.reduceToInt] at c_22
                  refine lv_aload_n hx hb dX12_errors_58 rfl (lv_at hl 4 rfl) ?_
                  refine lv_iload hx hb dX12_errors_59 (lv_at hl 0 rfl) ?_
                  refine vp_callSi (va_runV (As := [.int x4]) (rest := []) ⟨hx, hb, hml, hown, ht⟩ (k_X12_obeys l D a (upd zI0 0 0) cI x4 ⟨by omega, by omega⟩) (cwV 1 ht (zG_V zw_112 zw_113 zw_114 zw_2 zw_115) rfl rfl rfl (by decide +kernel) ⟨Nat.le_of_ble_eq_true rfl, Nat.le_of_ble_eq_true rfl⟩) (zR_V (va_recv hK hP (ci := 12) (q0 := 0) rfl rfl) (hP.sub (ws' := [((a 0), .inr (12, zMo a (upd zI0 0 0))), ((a 1), .inl (cI, 6792, .inl zI0))]) [0, 1] rfl) (hK.sub (tys' := [(cI, .int)]) [0] rfl)) rfl rfl hl.1 rfl (lv_room (Nat.le_of_ble_eq_true rfl)) dX12_errors_61 ⟨Nat.le_of_ble_eq_true rfl, Nat.le_of_ble_eq_true rfl⟩).run (fun r_46 hw_46 => ?_)
                  rcases hw_46 with ⟨rfl, h_46⟩ | ⟨rfl, h_46⟩
                  · skip
                    refine lv_if_ne (tgt := 70) hx hb dX12_errors_64 (by decide) (fun c_47 => ?_) (fun c_47 => ?_)
                    · skip
                      refine lv_iconst (v := 0) hx hb dX12_errors_70 (by decide) ?_
                      refine lv_istore (lv' := [(5, .int 0), (4, .int x4), (3, .ref q_3), (2, .ref q_2), (1, .ref q_1), (0, .ref (a 0))]) hx hb dX12_errors_71 hl (by decide) rfl (fun ls hl => ?_)
                      refine lv_iload hx hb dX12_errors_73 (lv_at hl 0 rfl) ?_
                      refine lv_aload_n hx hb dX12_errors_75 rfl (lv_at hl 5 rfl) ?_
                      refine vp_callSi (va_runV (As := []) (rest := [.int 0]) ⟨hx, hb, hml, hown, ht⟩ (k_X12_lawsNow l D a (upd zI0 0 0) cI) (cwV 0 ht (zG_V zw_39 zw_40 zw_41 zw_2 zw_42) rfl rfl rfl (by decide +kernel) ⟨Nat.le_of_ble_eq_true rfl, Nat.le_of_ble_eq_true rfl⟩) (zR_V (va_recv hK hP (ci := 12) (q0 := 0) rfl rfl) (hP.sub (ws' := [((a 0), .inr (12, zMo a (upd zI0 0 0))), ((a 1), .inl (cI, 6792, .inl zI0))]) [0, 1] rfl) (hK.sub (tys' := [(cI, .int)]) [0] rfl)) rfl rfl hl.1 rfl (lv_room (Nat.le_of_ble_eq_true rfl)) dX12_errors_76 ⟨Nat.le_of_ble_eq_true rfl, Nat.le_of_ble_eq_true rfl⟩).run (fun r_48 hw_48 => ?_)
                      obtain rfl : r_48 = 0 := hw_48
                      refine lv_icmp_ge (tgt := 123) hx hb dX12_errors_79 (by decide) (fun c_49 => ?_) (fun c_49 => ?_)
                      · skip
                        refine lv_aload_n hx hb dX12_errors_123 rfl (lv_at hl 5 rfl) ?_
                        refine lv_iload hx hb dX12_errors_124 (lv_at hl 1 rfl) ?_
                        refine vp_callSi (va_runV (As := [.int x4]) (rest := []) ⟨hx, hb, hml, hown, ht⟩ (k_X12_areOpenHeld l D a (upd zI0 0 0) cI x4) (cwV 1 ht (zG_V zw_138 zw_139 zw_140 zw_2 zw_141) rfl rfl rfl (by decide +kernel) ⟨Nat.le_of_ble_eq_true rfl, Nat.le_of_ble_eq_true rfl⟩) (zR_V (va_recv hK hP (ci := 12) (q0 := 0) rfl rfl) (hP.sub (ws' := [((a 0), .inr (12, zMo a (upd zI0 0 0))), ((a 1), .inl (cI, 6792, .inl zI0))]) [0, 1] rfl) (hK.sub (tys' := [(cI, .int)]) [0] rfl)) rfl rfl hl.1 rfl (lv_room (Nat.le_of_ble_eq_true rfl)) dX12_errors_126 ⟨Nat.le_of_ble_eq_true rfl, Nat.le_of_ble_eq_true rfl⟩).run (fun r_50 hw_50 => ?_)
                        obtain rfl : r_50 = 1 := hw_50
                        refine lv_istore (lv' := [(5, .int 1), (4, .int x4), (3, .ref q_3), (2, .ref q_2), (1, .ref q_1), (0, .ref (a 0))]) hx hb dX12_errors_129 hl (by decide) rfl (fun ls hl => ?_)
                        refine lv_iconst (v := 0) hx hb dX12_errors_131 (by decide) ?_
                        refine lv_istore (lv' := [(6, .int 0), (5, .int 1), (4, .int x4), (3, .ref q_3), (2, .ref q_2), (1, .ref q_1), (0, .ref (a 0))]) hx hb dX12_errors_132 hl (by decide) rfl (fun ls hl => ?_)
                        refine lv_iload hx hb dX12_errors_134 (lv_at hl 0 rfl) ?_
                        refine lv_iconst (v := 4) hx hb dX12_errors_136 (by decide) ?_
                        refine lv_icmp_ge (tgt := 190) hx hb dX12_errors_137 (by decide) (fun c_51 => ?_) (fun c_51 => ?_)
                        · skip
                          exact absurd c_51 (by decide)
                        · skip
                          refine lv_aload_n hx hb dX12_errors_140 rfl (lv_at hl 4 rfl) ?_
                          refine lv_iload hx hb dX12_errors_141 (lv_at hl 0 rfl) ?_
                          refine lv_aload_n hx hb dX12_errors_143 rfl (lv_at hl 4 rfl) ?_
                          refine lv_iload hx hb dX12_errors_144 (lv_at hl 0 rfl) ?_
                          refine va_zald hx hb hK hP 3 2 rfl rfl (vp_in_iff.mpr (by decide)) dX12_errors_146 ?_
                          refine W.eq (g2 := F0 m 147 ls (.int 0 :: .int 0 :: .ref q_2 :: [])) (by show F0 m _ ls (.int (f 0) :: _) = _; rw [hf 0]) ?_
                          refine lv_if_ne (tgt := 178) hx hb dX12_errors_147 (by decide) (fun c_53 => ?_) (fun c_53 => ?_)
                          · skip
                            exact absurd c_53 (by decide)
                          · skip
                            refine lv_iload hx hb dX12_errors_150 (lv_at hl 1 rfl) ?_
                            refine lv_if_eq (tgt := 182) hx hb dX12_errors_152 (by decide) (fun c_54 => ?_) (fun c_54 => ?_)
                            · skip
                              exact absurd c_54 (by decide)
                            · skip
                              refine lv_aload_n hx hb dX12_errors_155 rfl (lv_at hl 3 rfl) ?_
                              refine lv_iload hx hb dX12_errors_156 (lv_at hl 0 rfl) ?_
                              refine va_iald hx hb hK hP 4 3 rfl rfl (vp_in_iff.mpr (by decide)) dX12_errors_158 ?_
                              refine W.eq (g2 := F0 m 159 ls (.int (-1) :: .int 0 :: .ref q_2 :: [])) rfl ?_
                              refine lv_iconst (v := (-1)) hx hb dX12_errors_159 (by decide) ?_
                              refine lv_icmp_eq (tgt := 182) hx hb dX12_errors_160 (by decide) (fun c_56 => ?_) (fun c_56 => ?_)
                              · skip
                                refine lv_iconst (v := 0) hx hb dX12_errors_182 (by decide) ?_
                                refine va_zast hx hb hK hP hD hS 3 2 rfl rfl (vp_in_iff.mpr (by decide)) dX12_errors_183 (fun H locs hP hD hS => ?_)
                                have hP : va_P D vwCl [((a 0), .inr (12, zMo a (upd zI0 0 0))), ((a 1), .inl (cI, 6792, .inl zI0)), (q_1, .inl (cA_1, 20, .inl (fun _ => 0))), (q_2, .inl (cA_2, 4, .inl (upd f 0 0))), (q_3, .inl (cA_3, 4, .inl (upd (upd (upd (upd (fun _ => 0) 0 (-1)) 1 (-1)) 2 (-1)) 3 (-1))))] H := hP
                                have hD : va_D A [((a 0), .inr (12, zMo a (upd zI0 0 0))), ((a 1), .inl (cI, 6792, .inl zI0)), (q_1, .inl (cA_1, 20, .inl (fun _ => 0))), (q_2, .inl (cA_2, 4, .inl (upd f 0 0))), (q_3, .inl (cA_3, 4, .inl (upd (upd (upd (upd (fun _ => 0) 0 (-1)) 1 (-1)) 2 (-1)) 3 (-1))))] := hD
                                refine lv_iinc (v := 1) (lv' := [(6, .int 1), (5, .int 1), (4, .int x4), (3, .ref q_3), (2, .ref q_2), (1, .ref q_1), (0, .ref (a 0))]) hx hb dX12_errors_184 hl (k := 0) rfl (by decide) (by decide) rfl (fun ls hl => ?_)
                                refine lv_goto (tgt := 134) hx hb dX12_errors_187 (by decide) ?_
                                refine lv_iload hx hb dX12_errors_134 (lv_at hl 0 rfl) ?_
                                refine lv_iconst (v := 4) hx hb dX12_errors_136 (by decide) ?_
                                refine lv_icmp_ge (tgt := 190) hx hb dX12_errors_137 (by decide) (fun c_58 => ?_) (fun c_58 => ?_)
                                · skip
                                  exact absurd c_58 (by decide)
                                · skip
                                  refine lv_aload_n hx hb dX12_errors_140 rfl (lv_at hl 4 rfl) ?_
                                  refine lv_iload hx hb dX12_errors_141 (lv_at hl 0 rfl) ?_
                                  refine lv_aload_n hx hb dX12_errors_143 rfl (lv_at hl 4 rfl) ?_
                                  refine lv_iload hx hb dX12_errors_144 (lv_at hl 0 rfl) ?_
                                  refine va_zald hx hb hK hP 3 2 rfl rfl (vp_in_iff.mpr (by decide)) dX12_errors_146 ?_
                                  refine W.eq (g2 := F0 m 147 ls (.int 0 :: .int 1 :: .ref q_2 :: [])) (by show F0 m _ ls (.int (f 1) :: _) = _; rw [hf 1]) ?_
                                  refine lv_if_ne (tgt := 178) hx hb dX12_errors_147 (by decide) (fun c_60 => ?_) (fun c_60 => ?_)
                                  · skip
                                    exact absurd c_60 (by decide)
                                  · skip
                                    refine lv_iload hx hb dX12_errors_150 (lv_at hl 1 rfl) ?_
                                    refine lv_if_eq (tgt := 182) hx hb dX12_errors_152 (by decide) (fun c_61 => ?_) (fun c_61 => ?_)
                                    · skip
                                      exact absurd c_61 (by decide)
                                    · skip
                                      refine lv_aload_n hx hb dX12_errors_155 rfl (lv_at hl 3 rfl) ?_
                                      refine lv_iload hx hb dX12_errors_156 (lv_at hl 0 rfl) ?_
                                      refine va_iald hx hb hK hP 4 3 rfl rfl (vp_in_iff.mpr (by decide)) dX12_errors_158 ?_
                                      refine W.eq (g2 := F0 m 159 ls (.int (-1) :: .int 1 :: .ref q_2 :: [])) rfl ?_
                                      refine lv_iconst (v := (-1)) hx hb dX12_errors_159 (by decide) ?_
                                      refine lv_icmp_eq (tgt := 182) hx hb dX12_errors_160 (by decide) (fun c_63 => ?_) (fun c_63 => ?_)
                                      · skip
                                        refine lv_iconst (v := 0) hx hb dX12_errors_182 (by decide) ?_
                                        refine va_zast hx hb hK hP hD hS 3 2 rfl rfl (vp_in_iff.mpr (by decide)) dX12_errors_183 (fun H locs hP hD hS => ?_)
                                        have hP : va_P D vwCl [((a 0), .inr (12, zMo a (upd zI0 0 0))), ((a 1), .inl (cI, 6792, .inl zI0)), (q_1, .inl (cA_1, 20, .inl (fun _ => 0))), (q_2, .inl (cA_2, 4, .inl (upd (upd f 0 0) 1 0))), (q_3, .inl (cA_3, 4, .inl (upd (upd (upd (upd (fun _ => 0) 0 (-1)) 1 (-1)) 2 (-1)) 3 (-1))))] H := hP
                                        have hD : va_D A [((a 0), .inr (12, zMo a (upd zI0 0 0))), ((a 1), .inl (cI, 6792, .inl zI0)), (q_1, .inl (cA_1, 20, .inl (fun _ => 0))), (q_2, .inl (cA_2, 4, .inl (upd (upd f 0 0) 1 0))), (q_3, .inl (cA_3, 4, .inl (upd (upd (upd (upd (fun _ => 0) 0 (-1)) 1 (-1)) 2 (-1)) 3 (-1))))] := hD
                                        refine lv_iinc (v := 2) (lv' := [(6, .int 2), (5, .int 1), (4, .int x4), (3, .ref q_3), (2, .ref q_2), (1, .ref q_1), (0, .ref (a 0))]) hx hb dX12_errors_184 hl (k := 0) rfl (by decide) (by decide) rfl (fun ls hl => ?_)
                                        refine lv_goto (tgt := 134) hx hb dX12_errors_187 (by decide) ?_
                                        refine lv_iload hx hb dX12_errors_134 (lv_at hl 0 rfl) ?_
                                        refine lv_iconst (v := 4) hx hb dX12_errors_136 (by decide) ?_
                                        refine lv_icmp_ge (tgt := 190) hx hb dX12_errors_137 (by decide) (fun c_65 => ?_) (fun c_65 => ?_)
                                        · skip
                                          exact absurd c_65 (by decide)
                                        · skip
                                          refine lv_aload_n hx hb dX12_errors_140 rfl (lv_at hl 4 rfl) ?_
                                          refine lv_iload hx hb dX12_errors_141 (lv_at hl 0 rfl) ?_
                                          refine lv_aload_n hx hb dX12_errors_143 rfl (lv_at hl 4 rfl) ?_
                                          refine lv_iload hx hb dX12_errors_144 (lv_at hl 0 rfl) ?_
                                          refine va_zald hx hb hK hP 3 2 rfl rfl (vp_in_iff.mpr (by decide)) dX12_errors_146 ?_
                                          refine W.eq (g2 := F0 m 147 ls (.int 0 :: .int 2 :: .ref q_2 :: [])) (by show F0 m _ ls (.int (f 2) :: _) = _; rw [hf 2]) ?_
                                          refine lv_if_ne (tgt := 178) hx hb dX12_errors_147 (by decide) (fun c_67 => ?_) (fun c_67 => ?_)
                                          · skip
                                            exact absurd c_67 (by decide)
                                          · skip
                                            refine lv_iload hx hb dX12_errors_150 (lv_at hl 1 rfl) ?_
                                            refine lv_if_eq (tgt := 182) hx hb dX12_errors_152 (by decide) (fun c_68 => ?_) (fun c_68 => ?_)
                                            · skip
                                              exact absurd c_68 (by decide)
                                            · skip
                                              refine lv_aload_n hx hb dX12_errors_155 rfl (lv_at hl 3 rfl) ?_
                                              refine lv_iload hx hb dX12_errors_156 (lv_at hl 0 rfl) ?_
                                              refine va_iald hx hb hK hP 4 3 rfl rfl (vp_in_iff.mpr (by decide)) dX12_errors_158 ?_
                                              refine W.eq (g2 := F0 m 159 ls (.int (-1) :: .int 2 :: .ref q_2 :: [])) rfl ?_
                                              refine lv_iconst (v := (-1)) hx hb dX12_errors_159 (by decide) ?_
                                              refine lv_icmp_eq (tgt := 182) hx hb dX12_errors_160 (by decide) (fun c_70 => ?_) (fun c_70 => ?_)
                                              · skip
                                                refine lv_iconst (v := 0) hx hb dX12_errors_182 (by decide) ?_
                                                refine va_zast hx hb hK hP hD hS 3 2 rfl rfl (vp_in_iff.mpr (by decide)) dX12_errors_183 (fun H locs hP hD hS => ?_)
                                                have hP : va_P D vwCl [((a 0), .inr (12, zMo a (upd zI0 0 0))), ((a 1), .inl (cI, 6792, .inl zI0)), (q_1, .inl (cA_1, 20, .inl (fun _ => 0))), (q_2, .inl (cA_2, 4, .inl (upd (upd (upd f 0 0) 1 0) 2 0))), (q_3, .inl (cA_3, 4, .inl (upd (upd (upd (upd (fun _ => 0) 0 (-1)) 1 (-1)) 2 (-1)) 3 (-1))))] H := hP
                                                have hD : va_D A [((a 0), .inr (12, zMo a (upd zI0 0 0))), ((a 1), .inl (cI, 6792, .inl zI0)), (q_1, .inl (cA_1, 20, .inl (fun _ => 0))), (q_2, .inl (cA_2, 4, .inl (upd (upd (upd f 0 0) 1 0) 2 0))), (q_3, .inl (cA_3, 4, .inl (upd (upd (upd (upd (fun _ => 0) 0 (-1)) 1 (-1)) 2 (-1)) 3 (-1))))] := hD
                                                refine lv_iinc (v := 3) (lv' := [(6, .int 3), (5, .int 1), (4, .int x4), (3, .ref q_3), (2, .ref q_2), (1, .ref q_1), (0, .ref (a 0))]) hx hb dX12_errors_184 hl (k := 0) rfl (by decide) (by decide) rfl (fun ls hl => ?_)
                                                refine lv_goto (tgt := 134) hx hb dX12_errors_187 (by decide) ?_
                                                refine lv_iload hx hb dX12_errors_134 (lv_at hl 0 rfl) ?_
                                                refine lv_iconst (v := 4) hx hb dX12_errors_136 (by decide) ?_
                                                refine lv_icmp_ge (tgt := 190) hx hb dX12_errors_137 (by decide) (fun c_72 => ?_) (fun c_72 => ?_)
                                                · skip
                                                  exact absurd c_72 (by decide)
                                                · skip
                                                  refine lv_aload_n hx hb dX12_errors_140 rfl (lv_at hl 4 rfl) ?_
                                                  refine lv_iload hx hb dX12_errors_141 (lv_at hl 0 rfl) ?_
                                                  refine lv_aload_n hx hb dX12_errors_143 rfl (lv_at hl 4 rfl) ?_
                                                  refine lv_iload hx hb dX12_errors_144 (lv_at hl 0 rfl) ?_
                                                  refine va_zald hx hb hK hP 3 2 rfl rfl (vp_in_iff.mpr (by decide)) dX12_errors_146 ?_
                                                  refine W.eq (g2 := F0 m 147 ls (.int 0 :: .int 3 :: .ref q_2 :: [])) (by show F0 m _ ls (.int (f 3) :: _) = _; rw [hf 3]) ?_
                                                  refine lv_if_ne (tgt := 178) hx hb dX12_errors_147 (by decide) (fun c_74 => ?_) (fun c_74 => ?_)
                                                  · skip
                                                    exact absurd c_74 (by decide)
                                                  · skip
                                                    refine lv_iload hx hb dX12_errors_150 (lv_at hl 1 rfl) ?_
                                                    refine lv_if_eq (tgt := 182) hx hb dX12_errors_152 (by decide) (fun c_75 => ?_) (fun c_75 => ?_)
                                                    · skip
                                                      exact absurd c_75 (by decide)
                                                    · skip
                                                      refine lv_aload_n hx hb dX12_errors_155 rfl (lv_at hl 3 rfl) ?_
                                                      refine lv_iload hx hb dX12_errors_156 (lv_at hl 0 rfl) ?_
                                                      refine va_iald hx hb hK hP 4 3 rfl rfl (vp_in_iff.mpr (by decide)) dX12_errors_158 ?_
                                                      refine W.eq (g2 := F0 m 159 ls (.int (-1) :: .int 3 :: .ref q_2 :: [])) rfl ?_
                                                      refine lv_iconst (v := (-1)) hx hb dX12_errors_159 (by decide) ?_
                                                      refine lv_icmp_eq (tgt := 182) hx hb dX12_errors_160 (by decide) (fun c_77 => ?_) (fun c_77 => ?_)
                                                      · skip
                                                        refine lv_iconst (v := 0) hx hb dX12_errors_182 (by decide) ?_
                                                        refine va_zast hx hb hK hP hD hS 3 2 rfl rfl (vp_in_iff.mpr (by decide)) dX12_errors_183 (fun H locs hP hD hS => ?_)
                                                        have hP : va_P D vwCl [((a 0), .inr (12, zMo a (upd zI0 0 0))), ((a 1), .inl (cI, 6792, .inl zI0)), (q_1, .inl (cA_1, 20, .inl (fun _ => 0))), (q_2, .inl (cA_2, 4, .inl (upd (upd (upd (upd f 0 0) 1 0) 2 0) 3 0))), (q_3, .inl (cA_3, 4, .inl (upd (upd (upd (upd (fun _ => 0) 0 (-1)) 1 (-1)) 2 (-1)) 3 (-1))))] H := hP
                                                        have hD : va_D A [((a 0), .inr (12, zMo a (upd zI0 0 0))), ((a 1), .inl (cI, 6792, .inl zI0)), (q_1, .inl (cA_1, 20, .inl (fun _ => 0))), (q_2, .inl (cA_2, 4, .inl (upd (upd (upd (upd f 0 0) 1 0) 2 0) 3 0))), (q_3, .inl (cA_3, 4, .inl (upd (upd (upd (upd (fun _ => 0) 0 (-1)) 1 (-1)) 2 (-1)) 3 (-1))))] := hD
                                                        refine lv_iinc (v := 4) (lv' := [(6, .int 4), (5, .int 1), (4, .int x4), (3, .ref q_3), (2, .ref q_2), (1, .ref q_1), (0, .ref (a 0))]) hx hb dX12_errors_184 hl (k := 0) rfl (by decide) (by decide) rfl (fun ls hl => ?_)
                                                        refine lv_goto (tgt := 134) hx hb dX12_errors_187 (by decide) ?_
                                                        refine lv_iload hx hb dX12_errors_134 (lv_at hl 0 rfl) ?_
                                                        refine lv_iconst (v := 4) hx hb dX12_errors_136 (by decide) ?_
                                                        refine lv_icmp_ge (tgt := 190) hx hb dX12_errors_137 (by decide) (fun c_79 => ?_) (fun c_79 => ?_)
                                                        · skip
                                                          obtain ⟨x_80, e_80⟩ : ∃ y : Int32, y = x4 + 1 := ⟨_, rfl⟩
                                                          refine lv_iinc (v := x_80) (lv' := [(4, .int x_80), (6, .int 4), (5, .int 1), (3, .ref q_3), (2, .ref q_2), (1, .ref q_1), (0, .ref (a 0))]) hx hb dX12_errors_190 hl (k := 2) rfl (by rw [e_80]; rfl) (by decide) rfl (fun ls hl => ?_)
                                                          refine lv_goto (tgt := 50) hx hb dX12_errors_193 (by decide) ?_
                                                          have hinc_81 : x_80.toInt = x4.toInt + 1 := by rw [e_80]; exact zinc (by omega)
                                                          exact ih_21 x_80 (upd (upd (upd (upd f 0 0) 1 0) 2 0) 3 0) (by omega) (by omega) (by omega) (by intro j; first | exact hf j | (simp only [upd]; (repeat' split) <;> first | rfl | exact hf j)) _ _ hP hD hS ls (lv_sub hl [0, 3, 4, 5, 6] rfl)
                                                        · skip
                                                          exact absurd c_79 (by decide)
                                                      · skip
                                                        exact absurd c_77 (by decide)
                                              · skip
                                                exact absurd c_70 (by decide)
                                      · skip
                                        exact absurd c_63 (by decide)
                              · skip
                                exact absurd c_56 (by decide)
                      · skip
                        exact absurd c_49 (by decide)
                    · skip
                      exact absurd c_47 (by decide)
                  · skip
                    refine lv_if_ne (tgt := 70) hx hb dX12_errors_64 (by decide) (fun c_82 => ?_) (fun c_82 => ?_)
                    · skip
                      exact absurd c_82 (by decide)
                    · skip
                      refine lv_goto (tgt := 190) hx hb dX12_errors_67 (by decide) ?_
                      obtain ⟨x_83, e_83⟩ : ∃ y : Int32, y = x4 + 1 := ⟨_, rfl⟩
                      refine lv_iinc (v := x_83) (lv' := [(4, .int x_83), (3, .ref q_3), (2, .ref q_2), (1, .ref q_1), (0, .ref (a 0))]) hx hb dX12_errors_190 hl (k := 0) rfl (by rw [e_83]; rfl) (by decide) rfl (fun ls hl => ?_)
                      refine lv_goto (tgt := 50) hx hb dX12_errors_193 (by decide) ?_
                      have hinc_84 : x_83.toInt = x4.toInt + 1 := by rw [e_83]; exact zinc (by omega)
                      exact ih_21 x_83 f (by omega) (by omega) (by omega) (by intro j; first | exact hf j | (simp only [upd]; (repeat' split) <;> first | rfl | exact hf j)) _ _ hP hD hS ls (lv_sub hl [0, 1, 2, 3, 4] rfl)
            refine hloop_21 65537 0 (fun _ => 0) (by decide) (by decide) (by decide) (fun _ => rfl) _ _ hP hD hS ls (lv_sub hl [0, 1, 2, 3, 4] rfl)
          · skip
            exact absurd c_20 (by decide)
