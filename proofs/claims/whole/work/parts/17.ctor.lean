theorem dX0_init_0 : decode cX0_init 0 = .ok (.aload_n 0, 1) := by decide +kernel
theorem zw_159 : Cond.methodLink RX0 3 objectInit ∈ zT := zT_of 52 (by decide +kernel) (by decide +kernel)
theorem dX0_init_1 : decode cX0_init 1 = .ok (.invokespecial 3, 3) := by decide +kernel
theorem dX0_init_4 : decode cX0_init 4 = .ok (.aload_n 0, 1) := by decide +kernel
theorem dX0_init_5 : decode cX0_init 5 = .ok (.bipush 12, 2) := by decide +kernel
theorem zw_160 : Cond.classLink RX0 9 "Chainwork$Term" ∈ zT := zT_of 53 (by decide +kernel) (by decide +kernel)
theorem zw_161 : Cond.classLink RX0 9 RX9 ∈ zT := zT_of 53 (by decide +kernel) (by decide +kernel)
theorem dX0_init_7 : decode cX0_init 7 = .ok (.anewarray 9, 3) := by decide +kernel
theorem zw_162 : Cond.laysFinal RX0 RX0 "rows" "[LChainwork$Term;" ∈ zT := zT_of 63 (by decide +kernel) (by decide +kernel)
theorem zw_163 : Cond.laysFinal RX0 RX0 "names" "[I" ∈ zT := zT_of 65 (by decide +kernel) (by decide +kernel)
theorem zw_164 : Cond.lays RX0 RX0 "count" "I" ∈ zT := zT_of 67 (by decide +kernel) (by decide +kernel)
theorem zinX0 : ∀ w ∈ u_ws RX0 TX0 3, w ∈ zT := List.forall_mem_cons.mpr ⟨zw_162, List.forall_mem_cons.mpr ⟨zw_163, List.forall_mem_cons.mpr ⟨zw_164, (fun _ h => nomatch h)⟩⟩⟩
theorem zw_165 : Cond.fieldLink RX0 11 RX0 "rows" "[LChainwork$Term;" ∈ zT := zT_of 54 (by decide +kernel) (by decide +kernel)
theorem dX0_init_10 : decode cX0_init 10 = .ok (.putfield 11, 3) := by decide +kernel
theorem dX0_init_13 : decode cX0_init 13 = .ok (.aload_n 0, 1) := by decide +kernel
theorem dX0_init_14 : decode cX0_init 14 = .ok (.bipush 12, 2) := by decide +kernel
theorem dX0_init_16 : decode cX0_init 16 = .ok (.newarray .int, 2) := by decide +kernel
theorem zw_166 : Cond.fieldLink RX0 17 RX0 "names" "[I" ∈ zT := zT_of 57 (by decide +kernel) (by decide +kernel)
theorem dX0_init_18 : decode cX0_init 18 = .ok (.putfield 17, 3) := by decide +kernel
theorem dX0_init_21 : decode cX0_init 21 = .ok (.aload_n 0, 1) := by decide +kernel
theorem dX0_init_22 : decode cX0_init 22 = .ok (.iconst 0, 1) := by decide +kernel
theorem zw_167 : Cond.fieldLink RX0 21 RX0 "count" "I" ∈ zT := zT_of 60 (by decide +kernel) (by decide +kernel)
theorem dX0_init_23 : decode cX0_init 23 = .ok (.putfield 21, 3) := by decide +kernel
theorem dX0_init_26 : decode cX0_init 26 = .ok (.return_, 1) := by decide +kernel
abbrev cX8_init : ByteArray := prog_10_method_1_code
def yX8_init : MethodName := ⟨RX8, "<init>", "()V"⟩
theorem dX8_init_0 : decode cX8_init 0 = .ok (.aload_n 0, 1) := by decide +kernel
theorem zw_168 : Cond.methodLink RX8 3 objectInit ∈ zT := zT_of 37 (by decide +kernel) (by decide +kernel)
theorem dX8_init_1 : decode cX8_init 1 = .ok (.invokespecial 3, 3) := by decide +kernel
theorem dX8_init_4 : decode cX8_init 4 = .ok (.aload_n 0, 1) := by decide +kernel
theorem dX8_init_5 : decode cX8_init 5 = .ok (.iconst 4, 1) := by decide +kernel
theorem zw_169 : Cond.classLink RX8 9 "Chainwork$Sign" ∈ zT := zT_of 38 (by decide +kernel) (by decide +kernel)
theorem zw_170 : Cond.classLink RX8 9 RX7 ∈ zT := zT_of 38 (by decide +kernel) (by decide +kernel)
theorem dX8_init_6 : decode cX8_init 6 = .ok (.anewarray 9, 3) := by decide +kernel
theorem zw_171 : Cond.laysFinal RX8 RX8 "signs" "[LChainwork$Sign;" ∈ zT := zT_of 108 (by decide +kernel) (by decide +kernel)
theorem zw_172 : Cond.lays RX8 RX8 "signCount" "I" ∈ zT := zT_of 110 (by decide +kernel) (by decide +kernel)
theorem zw_173 : Cond.laysFinal RX8 RX8 "registers" "[LChainwork$Term;" ∈ zT := zT_of 112 (by decide +kernel) (by decide +kernel)
theorem zw_174 : Cond.laysFinal RX8 RX8 "laws" "[LChainwork$Law;" ∈ zT := zT_of 114 (by decide +kernel) (by decide +kernel)
theorem zw_175 : Cond.lays RX8 RX8 "lawCount" "I" ∈ zT := zT_of 116 (by decide +kernel) (by decide +kernel)
theorem zw_176 : Cond.laysFinal RX8 RX8 "equivalences" "[LChainwork$Equivalence;" ∈ zT := zT_of 118 (by decide +kernel) (by decide +kernel)
theorem zw_177 : Cond.lays RX8 RX8 "equivalenceCount" "I" ∈ zT := zT_of 120 (by decide +kernel) (by decide +kernel)
theorem zw_178 : Cond.laysFinal RX8 RX8 "assumptions" "[LChainwork$Law;" ∈ zT := zT_of 122 (by decide +kernel) (by decide +kernel)
theorem zw_179 : Cond.lays RX8 RX8 "assumptionCount" "I" ∈ zT := zT_of 124 (by decide +kernel) (by decide +kernel)
theorem zw_180 : Cond.laysFinal RX8 RX8 "chains" "[LChainwork$Chain;" ∈ zT := zT_of 126 (by decide +kernel) (by decide +kernel)
theorem zw_181 : Cond.lays RX8 RX8 "told" "I" ∈ zT := zT_of 128 (by decide +kernel) (by decide +kernel)
theorem zinX8 : ∀ w ∈ u_ws RX8 TX8 11, w ∈ zT := List.forall_mem_cons.mpr ⟨zw_171, List.forall_mem_cons.mpr ⟨zw_172, List.forall_mem_cons.mpr ⟨zw_173, List.forall_mem_cons.mpr ⟨zw_174, List.forall_mem_cons.mpr ⟨zw_175, List.forall_mem_cons.mpr ⟨zw_176, List.forall_mem_cons.mpr ⟨zw_177, List.forall_mem_cons.mpr ⟨zw_178, List.forall_mem_cons.mpr ⟨zw_179, List.forall_mem_cons.mpr ⟨zw_180, List.forall_mem_cons.mpr ⟨zw_181, (fun _ h => nomatch h)⟩⟩⟩⟩⟩⟩⟩⟩⟩⟩⟩
theorem zw_182 : Cond.fieldLink RX8 11 RX8 "signs" "[LChainwork$Sign;" ∈ zT := zT_of 71 (by decide +kernel) (by decide +kernel)
theorem dX8_init_9 : decode cX8_init 9 = .ok (.putfield 11, 3) := by decide +kernel
theorem dX8_init_12 : decode cX8_init 12 = .ok (.aload_n 0, 1) := by decide +kernel
theorem dX8_init_13 : decode cX8_init 13 = .ok (.iconst 0, 1) := by decide +kernel
theorem zw_183 : Cond.fieldLink RX8 17 RX8 "signCount" "I" ∈ zT := zT_of 76 (by decide +kernel) (by decide +kernel)
theorem dX8_init_14 : decode cX8_init 14 = .ok (.putfield 17, 3) := by decide +kernel
theorem dX8_init_17 : decode cX8_init 17 = .ok (.aload_n 0, 1) := by decide +kernel
theorem dX8_init_18 : decode cX8_init 18 = .ok (.bipush 10, 2) := by decide +kernel
theorem zw_184 : Cond.classLink RX8 21 "Chainwork$Term" ∈ zT := zT_of 40 (by decide +kernel) (by decide +kernel)
theorem zw_185 : Cond.classLink RX8 21 RX9 ∈ zT := zT_of 40 (by decide +kernel) (by decide +kernel)
theorem dX8_init_20 : decode cX8_init 20 = .ok (.anewarray 21, 3) := by decide +kernel
theorem zw_186 : Cond.fieldLink RX8 23 RX8 "registers" "[LChainwork$Term;" ∈ zT := zT_of 80 (by decide +kernel) (by decide +kernel)
theorem dX8_init_23 : decode cX8_init 23 = .ok (.putfield 23, 3) := by decide +kernel
theorem dX8_init_26 : decode cX8_init 26 = .ok (.aload_n 0, 1) := by decide +kernel
theorem dX8_init_27 : decode cX8_init 27 = .ok (.bipush 100, 2) := by decide +kernel
theorem zw_187 : Cond.classLink RX8 27 "Chainwork$Law" ∈ zT := zT_of 42 (by decide +kernel) (by decide +kernel)
theorem zw_188 : Cond.classLink RX8 27 RX4 ∈ zT := zT_of 42 (by decide +kernel) (by decide +kernel)
theorem dX8_init_29 : decode cX8_init 29 = .ok (.anewarray 27, 3) := by decide +kernel
theorem zw_189 : Cond.fieldLink RX8 29 RX8 "laws" "[LChainwork$Law;" ∈ zT := zT_of 82 (by decide +kernel) (by decide +kernel)
theorem dX8_init_32 : decode cX8_init 32 = .ok (.putfield 29, 3) := by decide +kernel
theorem dX8_init_35 : decode cX8_init 35 = .ok (.aload_n 0, 1) := by decide +kernel
theorem dX8_init_36 : decode cX8_init 36 = .ok (.iconst 0, 1) := by decide +kernel
theorem zw_190 : Cond.fieldLink RX8 33 RX8 "lawCount" "I" ∈ zT := zT_of 87 (by decide +kernel) (by decide +kernel)
theorem dX8_init_37 : decode cX8_init 37 = .ok (.putfield 33, 3) := by decide +kernel
theorem dX8_init_40 : decode cX8_init 40 = .ok (.aload_n 0, 1) := by decide +kernel
theorem dX8_init_41 : decode cX8_init 41 = .ok (.iconst 4, 1) := by decide +kernel
theorem zw_191 : Cond.classLink RX8 36 "Chainwork$Equivalence" ∈ zT := zT_of 44 (by decide +kernel) (by decide +kernel)
theorem zw_192 : Cond.classLink RX8 36 RX2 ∈ zT := zT_of 44 (by decide +kernel) (by decide +kernel)
theorem dX8_init_42 : decode cX8_init 42 = .ok (.anewarray 36, 3) := by decide +kernel
theorem zw_193 : Cond.fieldLink RX8 38 RX8 "equivalences" "[LChainwork$Equivalence;" ∈ zT := zT_of 89 (by decide +kernel) (by decide +kernel)
theorem dX8_init_45 : decode cX8_init 45 = .ok (.putfield 38, 3) := by decide +kernel
theorem dX8_init_48 : decode cX8_init 48 = .ok (.aload_n 0, 1) := by decide +kernel
theorem dX8_init_49 : decode cX8_init 49 = .ok (.iconst 0, 1) := by decide +kernel
theorem zw_194 : Cond.fieldLink RX8 42 RX8 "equivalenceCount" "I" ∈ zT := zT_of 92 (by decide +kernel) (by decide +kernel)
theorem dX8_init_50 : decode cX8_init 50 = .ok (.putfield 42, 3) := by decide +kernel
theorem dX8_init_53 : decode cX8_init 53 = .ok (.aload_n 0, 1) := by decide +kernel
theorem dX8_init_54 : decode cX8_init 54 = .ok (.iconst 3, 1) := by decide +kernel
theorem dX8_init_55 : decode cX8_init 55 = .ok (.anewarray 27, 3) := by decide +kernel
theorem zw_195 : Cond.fieldLink RX8 45 RX8 "assumptions" "[LChainwork$Law;" ∈ zT := zT_of 95 (by decide +kernel) (by decide +kernel)
theorem dX8_init_58 : decode cX8_init 58 = .ok (.putfield 45, 3) := by decide +kernel
theorem dX8_init_61 : decode cX8_init 61 = .ok (.aload_n 0, 1) := by decide +kernel
theorem dX8_init_62 : decode cX8_init 62 = .ok (.iconst 0, 1) := by decide +kernel
theorem zw_196 : Cond.fieldLink RX8 48 RX8 "assumptionCount" "I" ∈ zT := zT_of 99 (by decide +kernel) (by decide +kernel)
theorem dX8_init_63 : decode cX8_init 63 = .ok (.putfield 48, 3) := by decide +kernel
theorem dX8_init_66 : decode cX8_init 66 = .ok (.aload_n 0, 1) := by decide +kernel
theorem dX8_init_67 : decode cX8_init 67 = .ok (.iconst 4, 1) := by decide +kernel
theorem zw_197 : Cond.classLink RX8 51 "Chainwork$Chain" ∈ zT := zT_of 46 (by decide +kernel) (by decide +kernel)
theorem zw_198 : Cond.classLink RX8 51 RX0 ∈ zT := zT_of 46 (by decide +kernel) (by decide +kernel)
theorem dX8_init_68 : decode cX8_init 68 = .ok (.anewarray 51, 3) := by decide +kernel
theorem zw_199 : Cond.fieldLink RX8 53 RX8 "chains" "[LChainwork$Chain;" ∈ zT := zT_of 103 (by decide +kernel) (by decide +kernel)
theorem dX8_init_71 : decode cX8_init 71 = .ok (.putfield 53, 3) := by decide +kernel
theorem dX8_init_74 : decode cX8_init 74 = .ok (.aload_n 0, 1) := by decide +kernel
theorem dX8_init_75 : decode cX8_init 75 = .ok (.iconst 0, 1) := by decide +kernel
theorem zw_200 : Cond.fieldLink RX8 57 RX8 "told" "I" ∈ zT := zT_of 105 (by decide +kernel) (by decide +kernel)
theorem dX8_init_76 : decode cX8_init 76 = .ok (.putfield 57, 3) := by decide +kernel
theorem zw_201 : Cond.instantiable RX0 3 ∈ zT := zT_of 48 (by decide +kernel) (by decide +kernel)
theorem zw_202 : Cond.initialized RX0 ∈ zT := zT_of 3 (by decide +kernel) (by decide +kernel)
theorem dX8_init_79 : decode cX8_init 79 = .ok (.new 51, 3) := by decide +kernel
theorem dX8_init_82 : decode cX8_init 82 = .ok (.dup, 1) := by decide +kernel
theorem zw_203 : Cond.code yX0_init cX0_init 1 none ∈ zT := zT_of 51 (by decide +kernel) (by decide +kernel)
theorem zw_204 : Cond.instanceMethod yX0_init ∈ zT := zT_of 50 (by decide +kernel) (by decide +kernel)
theorem dX8_init_83 : decode cX8_init 83 = .ok (.invokespecial 60, 3) := by decide +kernel
theorem dX8_init_86 : decode cX8_init 86 = .ok (.astore_n 1, 1) := by decide +kernel
theorem dX8_init_87 : decode cX8_init 87 = .ok (.iconst 0, 1) := by decide +kernel
theorem dX8_init_88 : decode cX8_init 88 = .ok (.istore_n 2, 1) := by decide +kernel
theorem dX8_init_89 : decode cX8_init 89 = .ok (.iload_n 2, 1) := by decide +kernel
theorem dX8_init_90 : decode cX8_init 90 = .ok (.iconst 4, 1) := by decide +kernel
theorem dX8_init_91 : decode cX8_init 91 = .ok (.if_icmp .ge 16, 3) := by decide +kernel
theorem dX8_init_94 : decode cX8_init 94 = .ok (.aload_n 0, 1) := by decide +kernel
theorem dX8_init_95 : decode cX8_init 95 = .ok (.getfield 53, 3) := by decide +kernel
theorem dX8_init_98 : decode cX8_init 98 = .ok (.iload_n 2, 1) := by decide +kernel
theorem dX8_init_99 : decode cX8_init 99 = .ok (.aload_n 1, 1) := by decide +kernel
theorem dX8_init_100 : decode cX8_init 100 = .ok (.aastore, 1) := by decide +kernel
theorem dX8_init_101 : decode cX8_init 101 = .ok (.iinc 2 1, 3) := by decide +kernel
theorem dX8_init_104 : decode cX8_init 104 = .ok (.goto (-15), 3) := by decide +kernel
theorem dX8_init_107 : decode cX8_init 107 = .ok (.return_, 1) := by decide +kernel
theorem zXw_fb {X : State → Prop} (hX : ∀ u U : State, u.WarmedH U.vm → X u → X U) (av : List Value) (D : va_G) (ws : va_W) (tys : List (ClassId × FieldType)) (sz : Nat) : FrameBlind (va_Pc av (zX X D ws tys sz)) := fun a U g mk q => by
  obtain ⟨q0, qX, q1, qP, qK, qD⟩ := q
  exact ⟨q0, hX U (U.calling g mk a) (State.WarmedH.refl U) qX, q1, qP, va_K.moved (u := U) (U := U.calling g mk a) (Vm.Alike.refl U.vm) qK, qD⟩
theorem zXw_S {X : State → Prop} (hX : ∀ u U : State, u.WarmedH U.vm → X u → X U) {s : State} {H : Heap} {As : List Value} {D : va_G} {ws : va_W} {tys : List (ClassId × FieldType)} {A : Nat → Prop} (hx : X s) (hP : va_P D vwCl ws H) (hK : va_K D vwCl tys s) (hD : va_D A ws) : PreS s H (va_Pc As (zX X D ws tys H.size)) As := ⟨zXw_fb hX _ _ _ _ _, fun U hU hW => ⟨rfl, hX s U hW hx, by rw [hU], by rw [hU]; exact hP, va_K.moved hW.alike hK, hD.weaken (fun _ _ _ _ => trivial)⟩⟩
theorem zXw_I {X : State → Prop} (hX : ∀ u U : State, u.WarmedH U.vm → X u → X U) {s : State} {H : Heap} {b : Addr} {As : List Value} {D : va_G} {ws : va_W} {tys : List (ClassId × FieldType)} {A : Nat → Prop} (hx : X s) (hP : va_P D vwCl ws H) (hK : va_K D vwCl tys s) (hD : va_D A ws) : PreS s H (va_Pc (.ref b :: As) (zX X D ws tys H.size)) (.ref b :: As) := zXw_S hX hx hP hK hD
theorem zXw_V {X : State → Prop} (hX : ∀ u U : State, u.WarmedH U.vm → X u → X U) {s : State} {H : Heap} {C : String} {b : Addr} {As : List Value} {D : va_G} {ws : va_W} {tys : List (ClassId × FieldType)} {A : Nat → Prop} (hr : ∃ cellB : Cell, H[b]? = some cellB ∧ cellB.vm.isStatics = false ∧ s.vm.findClass C = some cellB.cls) (hx : X s) (hP : va_P D vwCl ws H) (hK : va_K D vwCl tys s) (hD : va_D A ws) : PreV s H C b (va_Pc (.ref b :: As) (zX X D ws tys H.size)) As := ⟨zXw_fb hX _ _ _ _ _, hr, fun U hU hW => ⟨rfl, hX s U hW hx, by rw [hU], by rw [hU]; exact hP, va_K.moved hW.alike hK, hD.weaken (fun _ _ _ _ => trivial)⟩⟩

set_option maxHeartbeats 4000000 in
set_option maxRecDepth 100000 in
theorem k_X0_init (l : Launch) (sz : Nat) (D : va_G) (b : Nat) : Met l yX0_init (.code yX0_init cX0_init 1 none :: zT) ({ frames := 1, cells := 2, slots := 24, locals := 12 }) (va_Pc [.ref b] (zX zTab D [(b, .inr (0, [.null, .null, .int 0]))] [] sz)) (va_Qv (fun (_ : Unit) => True) (fun _ t => ∃ (q1 : Nat) (q2 : Nat), zE D [(b, .inr (0, [.ref q1, .ref q2, .int 0]))] [] (va_A [(b, .inr (0, [.null, .null, .int 0]))] sz) t) (va_A [(b, .inr (0, [.null, .null, .int 0]))] sz)) 2 24 (va_A [(b, .inr (0, [.null, .null, .int 0]))] sz) := by
  refine Met.ofW (cc := cX0_init) (maxL := 1) (ret := none) (by decide) rfl ?_
  intro p e s m args below meth c s₁ B hml hv
  obtain ⟨rfl, hX, hsz, hP, hK, hD0⟩ := hv
  have hx := B.exec
  have hb := B.bytes
  have hr := B.returns
  have hts := atoms_spec (ws := (.code yX0_init cX0_init 1 none :: zT)) B.pre
  have ht : ∀ w ∈ zT, w.before _ s = true := fun w h => hts w (List.mem_cons_of_mem _ h)
  have hown : s.vm.findClass RX0 = some m.cls := findClass_of_methodNamed B.named
  have hlocks := B.notSynchronized
  have hin : meth.name = "<init>" := (name_of_methodNamed B.named B.method).1
  subst hsz
  have hD := hD0.self (sz := s.heap.size)
  generalize hAe : va_A [(b, .inr (0, [.null, .null, .int 0]))] s.heap.size = A at hD ⊢
  have hA : ∀ q : Nat, s.heap.size ≤ q → A q := fun q h => by rw [← hAe]; exact Or.inr h
  have hS : va_S A s.heap s.heap [] := va_S.rf
  have hP : va_P D vwCl [(b, .inr (0, [.null, .null, .int 0]))] s.heap := hP
  have hl := lv_entry ([.ref b]) (n := 1) (Nat.le_of_ble_eq_true rfl)
  rw [lg_entry_eq]
  generalize (lg_sl ([.ref b]) ++ List.replicate (1 - (lg_sl ([.ref b])).length) Slot.unset).toArray = ls at hl ⊢
  have hl : lv_has ls 1 [(0, .ref b)] := hl
  skip
  refine lv_aload_n hx hb dX0_init_0 rfl (lv_at hl 0 rfl) ?_
  refine W.objInit hx hb hown (ht _ zw_159) (ht _ zw_145) (ht _ zw_146) rfl (by rw [hml]; exact hl.1) rfl dX0_init_1 (Nat.le_of_ble_eq_true rfl) (Nat.le_of_ble_eq_true rfl) ?_
  refine W.eq (g2 := F0 m 4 ls []) rfl ?_
  refine lv_aload_n hx hb dX0_init_4 rfl (lv_at hl 0 rfl) ?_
  refine lv_bipush (v := 12) hx hb dX0_init_5 (by decide) ?_
  refine va_newq (C := RX9) hx hb hown (ht _ zw_161) (hX.2.1 _ (by decide +kernel)) hK hP hD hS hA (by decide) rfl (Nat.le_of_ble_eq_true rfl) (Nat.le_of_ble_eq_true rfl) (Nat.le_of_ble_eq_true rfl) dX0_init_7 (fun q_1 cA_1 H hK hP hD hS => ?_)
  have hP : va_P D vwCl [(b, .inr (0, [.null, .null, .int 0])), (q_1, .inl (cA_1, 12, .inr (.inr (.inr (.inr (fun _ => none))))))] H := hP
  have hD : va_D A [(b, .inr (0, [.null, .null, .int 0])), (q_1, .inl (cA_1, 12, .inr (.inr (.inr (.inr (fun _ => none))))))] := hD
  have hK : va_K D vwCl [(cA_1, .object RX9)] s := hK
  refine W.widen (k := 1) (n := 12) (Nat.le_of_ble_eq_true rfl) (Nat.le_of_ble_eq_true rfl) ?_
  refine va_putF (D := D) (ci := 0) (v := .ref q_1) (ty := .array (.object "Chainwork$Term")) (C := RX0) (T := TX0) (N := 3) hx hb ht zinX0 tyX0 tyX0_ok nmX0 hown hK hP hD hS 0 rfl rfl 0 (by decide) (ht _ zw_165) (fun _ h9 => h9) rfl hin rfl (by decide +kernel) rfl rfl (Nat.le_of_ble_eq_true rfl) dX0_init_10 (fun H locs hP hD hS => ?_)
  have hP : va_P D vwCl [(b, .inr (0, [.ref q_1, .null, .int 0])), (q_1, .inl (cA_1, 12, .inr (.inr (.inr (.inr (fun _ => none))))))] H := hP
  have hD : va_D A [(b, .inr (0, [.ref q_1, .null, .int 0])), (q_1, .inl (cA_1, 12, .inr (.inr (.inr (.inr (fun _ => none))))))] := hD
  refine lv_aload_n hx hb dX0_init_13 rfl (lv_at hl 0 rfl) ?_
  refine lv_bipush (v := 12) hx hb dX0_init_14 (by decide) ?_
  refine va_newa (atype := .int) (a0 := (12, .inl (fun _ => 0))) hx hb (ht _ zw_108) rfl hK hP hD hS hA (fun _ => rfl) (by decide) rfl (Nat.le_of_ble_eq_true rfl) (Nat.le_of_ble_eq_true rfl) (Nat.le_of_ble_eq_true rfl) dX0_init_16 (fun q_2 cA_2 H hK hP hD hS => ?_)
  have hP : va_P D vwCl [(b, .inr (0, [.ref q_1, .null, .int 0])), (q_1, .inl (cA_1, 12, .inr (.inr (.inr (.inr (fun _ => none)))))), (q_2, .inl (cA_2, 12, .inl (fun _ => 0)))] H := hP
  have hD : va_D A [(b, .inr (0, [.ref q_1, .null, .int 0])), (q_1, .inl (cA_1, 12, .inr (.inr (.inr (.inr (fun _ => none)))))), (q_2, .inl (cA_2, 12, .inl (fun _ => 0)))] := hD
  have hK : va_K D vwCl [(cA_1, .object RX9), (cA_2, .int)] s := hK
  refine W.widen (k := 2) (n := 24) (Nat.le_of_ble_eq_true rfl) (Nat.le_of_ble_eq_true rfl) ?_
  refine va_putF (D := D) (ci := 0) (v := .ref q_2) (ty := .array .int) (C := RX0) (T := TX0) (N := 3) hx hb ht zinX0 tyX0 tyX0_ok nmX0 hown hK hP hD hS 0 rfl rfl 1 (by decide) (ht _ zw_166) (fun _ h9 => h9) rfl hin rfl (by decide +kernel) rfl rfl (Nat.le_of_ble_eq_true rfl) dX0_init_18 (fun H locs hP hD hS => ?_)
  have hP : va_P D vwCl [(b, .inr (0, [.ref q_1, .ref q_2, .int 0])), (q_1, .inl (cA_1, 12, .inr (.inr (.inr (.inr (fun _ => none)))))), (q_2, .inl (cA_2, 12, .inl (fun _ => 0)))] H := hP
  have hD : va_D A [(b, .inr (0, [.ref q_1, .ref q_2, .int 0])), (q_1, .inl (cA_1, 12, .inr (.inr (.inr (.inr (fun _ => none)))))), (q_2, .inl (cA_2, 12, .inl (fun _ => 0)))] := hD
  refine lv_aload_n hx hb dX0_init_21 rfl (lv_at hl 0 rfl) ?_
  refine lv_iconst (v := 0) hx hb dX0_init_22 (by decide) ?_
  refine va_put (D := D) (ci := 0) (v := .int 0) (ty := .int) (C := RX0) (T := TX0) (N := 3) hx hb ht zinX0 tyX0 tyX0_ok nmX0 hown hK hP hD hS 0 rfl rfl 2 (by decide) (ht _ zw_167) (fun _ h9 => h9) rfl (by decide +kernel) rfl rfl (Nat.le_of_ble_eq_true rfl) dX0_init_23 (fun H locs hP hD hS => ?_)
  have hP : va_P D vwCl [(b, .inr (0, [.ref q_1, .ref q_2, .int 0])), (q_1, .inl (cA_1, 12, .inr (.inr (.inr (.inr (fun _ => none)))))), (q_2, .inl (cA_2, 12, .inl (fun _ => 0)))] H := hP
  have hD : va_D A [(b, .inr (0, [.ref q_1, .ref q_2, .int 0])), (q_1, .inl (cA_1, 12, .inr (.inr (.inr (.inr (fun _ => none)))))), (q_2, .inl (cA_2, 12, .inl (fun _ => 0)))] := hD
  have hP9 := hP.sub (ws' := [(b, .inr (0, [.ref q_1, .ref q_2, .int 0]))]) [0] rfl
  have hD9 := hD.sub (ws' := [(b, .inr (0, [.ref q_1, .ref q_2, .int 0]))]) [0] (by decide) rfl
  have hK9 := hK.sub (tys' := []) [] rfl
  refine W.widen (k := 2) (n := 24) (Nat.le_of_ble_eq_true rfl) (Nat.le_of_ble_eq_true rfl) ?_
  exact W.vret hx hb hr (fun t ht0 hW => ⟨⟨(), rfl, trivial, q_1, q_2, zE_of hP9 hK9 hD9 ht0 hW⟩, hS.F ht0⟩) hS.2.2 dX0_init_26
set_option maxHeartbeats 4000000 in
set_option maxRecDepth 100000 in
theorem k_X8_init (l : Launch) (sz : Nat) (D : va_G) (b : Nat) : Met l yX8_init (.code yX8_init cX8_init 3 none :: zT) ({ frames := 2, cells := 9, slots := 152, locals := 32 }) (va_Pc [.ref b] (zX zTab D [(b, .inr (8, [.null, .int 0, .null, .null, .int 0, .null, .int 0, .null, .int 0, .null, .int 0]))] [] sz)) (va_Qv (fun (_ : Unit) => True) (fun _ t => ∃ (q1 : Nat) (q2 : Nat) (q3 : Nat) (q4 : Nat) (q5 : Nat) (q6 : Nat) (qe : Nat) (q7 : Nat) (q8 : Nat) (f : Nat → Option Nat) (c7 : ClassId) (c9 : ClassId) (c4 : ClassId) (c2 : ClassId) (c0 : ClassId), (∀ k : Nat, k < 4 → f k = some qe) ∧ zE D [(b, .inr (8, [.ref q1, .int 0, .ref q2, .ref q3, .int 0, .ref q4, .int 0, .ref q5, .int 0, .ref q6, .int 0])), (q1, .inl (c7, 4, .inr (.inr (.inr (.inr (fun _ => none)))))), (q2, .inl (c9, 10, .inr (.inr (.inr (.inr (fun _ => none)))))), (q3, .inl (c4, 100, .inr (.inr (.inr (.inr (fun _ => none)))))), (q4, .inl (c2, 4, .inr (.inr (.inr (.inr (fun _ => none)))))), (q5, .inl (c4, 3, .inr (.inr (.inr (.inr (fun _ => none)))))), (q6, .inl (c0, 4, .inr (.inr (.inr (.inr f))))), (qe, .inr (0, [.ref q7, .ref q8, .int 0]))] [(c7, .object RX7), (c9, .object RX9), (c4, .object RX4), (c2, .object RX2), (c0, .object RX0)] (va_A [(b, .inr (8, [.null, .int 0, .null, .null, .int 0, .null, .int 0, .null, .int 0, .null, .int 0]))] sz) t) (va_A [(b, .inr (8, [.null, .int 0, .null, .null, .int 0, .null, .int 0, .null, .int 0, .null, .int 0]))] sz)) 9 152 (va_A [(b, .inr (8, [.null, .int 0, .null, .null, .int 0, .null, .int 0, .null, .int 0, .null, .int 0]))] sz) := by
  refine Met.ofW (cc := cX8_init) (maxL := 3) (ret := none) (by decide) rfl ?_
  intro p e s m args below meth c s₁ B hml hv
  obtain ⟨rfl, hX, hsz, hP, hK, hD0⟩ := hv
  have hx := B.exec
  have hb := B.bytes
  have hr := B.returns
  have hts := atoms_spec (ws := (.code yX8_init cX8_init 3 none :: zT)) B.pre
  have ht : ∀ w ∈ zT, w.before _ s = true := fun w h => hts w (List.mem_cons_of_mem _ h)
  have hown : s.vm.findClass RX8 = some m.cls := findClass_of_methodNamed B.named
  have hlocks := B.notSynchronized
  have hin : meth.name = "<init>" := (name_of_methodNamed B.named B.method).1
  subst hsz
  have hD := hD0.self (sz := s.heap.size)
  generalize hAe : va_A [(b, .inr (8, [.null, .int 0, .null, .null, .int 0, .null, .int 0, .null, .int 0, .null, .int 0]))] s.heap.size = A at hD ⊢
  have hA : ∀ q : Nat, s.heap.size ≤ q → A q := fun q h => by rw [← hAe]; exact Or.inr h
  have hS : va_S A s.heap s.heap [] := va_S.rf
  have hP : va_P D vwCl [(b, .inr (8, [.null, .int 0, .null, .null, .int 0, .null, .int 0, .null, .int 0, .null, .int 0]))] s.heap := hP
  have hl := lv_entry ([.ref b]) (n := 3) (Nat.le_of_ble_eq_true rfl)
  rw [lg_entry_eq]
  generalize (lg_sl ([.ref b]) ++ List.replicate (3 - (lg_sl ([.ref b])).length) Slot.unset).toArray = ls at hl ⊢
  have hl : lv_has ls 3 [(0, .ref b)] := hl
  skip
  refine lv_aload_n hx hb dX8_init_0 rfl (lv_at hl 0 rfl) ?_
  refine W.objInit hx hb hown (ht _ zw_168) (ht _ zw_145) (ht _ zw_146) rfl (by rw [hml]; exact hl.1) rfl dX8_init_1 (Nat.le_of_ble_eq_true rfl) (Nat.le_of_ble_eq_true rfl) ?_
  refine W.eq (g2 := F0 m 4 ls []) rfl ?_
  refine lv_aload_n hx hb dX8_init_4 rfl (lv_at hl 0 rfl) ?_
  refine lv_iconst (v := 4) hx hb dX8_init_5 (by decide) ?_
  refine va_newq (C := RX7) hx hb hown (ht _ zw_170) (hX.2.1 _ (by decide +kernel)) hK hP hD hS hA (by decide) rfl (Nat.le_of_ble_eq_true rfl) (Nat.le_of_ble_eq_true rfl) (Nat.le_of_ble_eq_true rfl) dX8_init_6 (fun q_1 cA_1 H hK hP hD hS => ?_)
  have hP : va_P D vwCl [(b, .inr (8, [.null, .int 0, .null, .null, .int 0, .null, .int 0, .null, .int 0, .null, .int 0])), (q_1, .inl (cA_1, 4, .inr (.inr (.inr (.inr (fun _ => none))))))] H := hP
  have hD : va_D A [(b, .inr (8, [.null, .int 0, .null, .null, .int 0, .null, .int 0, .null, .int 0, .null, .int 0])), (q_1, .inl (cA_1, 4, .inr (.inr (.inr (.inr (fun _ => none))))))] := hD
  have hK : va_K D vwCl [(cA_1, .object RX7)] s := hK
  refine W.widen (k := 1) (n := 4) (Nat.le_of_ble_eq_true rfl) (Nat.le_of_ble_eq_true rfl) ?_
  refine va_putF (D := D) (ci := 8) (v := .ref q_1) (ty := .array (.object "Chainwork$Sign")) (C := RX8) (T := TX8) (N := 11) hx hb ht zinX8 tyX8 tyX8_ok nmX8 hown hK hP hD hS 0 rfl rfl 0 (by decide) (ht _ zw_182) (fun _ h9 => h9) rfl hin rfl (by decide +kernel) rfl rfl (Nat.le_of_ble_eq_true rfl) dX8_init_9 (fun H locs hP hD hS => ?_)
  have hP : va_P D vwCl [(b, .inr (8, [.ref q_1, .int 0, .null, .null, .int 0, .null, .int 0, .null, .int 0, .null, .int 0])), (q_1, .inl (cA_1, 4, .inr (.inr (.inr (.inr (fun _ => none))))))] H := hP
  have hD : va_D A [(b, .inr (8, [.ref q_1, .int 0, .null, .null, .int 0, .null, .int 0, .null, .int 0, .null, .int 0])), (q_1, .inl (cA_1, 4, .inr (.inr (.inr (.inr (fun _ => none))))))] := hD
  refine lv_aload_n hx hb dX8_init_12 rfl (lv_at hl 0 rfl) ?_
  refine lv_iconst (v := 0) hx hb dX8_init_13 (by decide) ?_
  refine va_put (D := D) (ci := 8) (v := .int 0) (ty := .int) (C := RX8) (T := TX8) (N := 11) hx hb ht zinX8 tyX8 tyX8_ok nmX8 hown hK hP hD hS 0 rfl rfl 1 (by decide) (ht _ zw_183) (fun _ h9 => h9) rfl (by decide +kernel) rfl rfl (Nat.le_of_ble_eq_true rfl) dX8_init_14 (fun H locs hP hD hS => ?_)
  have hP : va_P D vwCl [(b, .inr (8, [.ref q_1, .int 0, .null, .null, .int 0, .null, .int 0, .null, .int 0, .null, .int 0])), (q_1, .inl (cA_1, 4, .inr (.inr (.inr (.inr (fun _ => none))))))] H := hP
  have hD : va_D A [(b, .inr (8, [.ref q_1, .int 0, .null, .null, .int 0, .null, .int 0, .null, .int 0, .null, .int 0])), (q_1, .inl (cA_1, 4, .inr (.inr (.inr (.inr (fun _ => none))))))] := hD
  refine lv_aload_n hx hb dX8_init_17 rfl (lv_at hl 0 rfl) ?_
  refine lv_bipush (v := 10) hx hb dX8_init_18 (by decide) ?_
  refine va_newq (C := RX9) hx hb hown (ht _ zw_185) (hX.2.1 _ (by decide +kernel)) hK hP hD hS hA (by decide) rfl (Nat.le_of_ble_eq_true rfl) (Nat.le_of_ble_eq_true rfl) (Nat.le_of_ble_eq_true rfl) dX8_init_20 (fun q_2 cA_2 H hK hP hD hS => ?_)
  have hP : va_P D vwCl [(b, .inr (8, [.ref q_1, .int 0, .null, .null, .int 0, .null, .int 0, .null, .int 0, .null, .int 0])), (q_1, .inl (cA_1, 4, .inr (.inr (.inr (.inr (fun _ => none)))))), (q_2, .inl (cA_2, 10, .inr (.inr (.inr (.inr (fun _ => none))))))] H := hP
  have hD : va_D A [(b, .inr (8, [.ref q_1, .int 0, .null, .null, .int 0, .null, .int 0, .null, .int 0, .null, .int 0])), (q_1, .inl (cA_1, 4, .inr (.inr (.inr (.inr (fun _ => none)))))), (q_2, .inl (cA_2, 10, .inr (.inr (.inr (.inr (fun _ => none))))))] := hD
  have hK : va_K D vwCl [(cA_1, .object RX7), (cA_2, .object RX9)] s := hK
  refine W.widen (k := 2) (n := 14) (Nat.le_of_ble_eq_true rfl) (Nat.le_of_ble_eq_true rfl) ?_
  refine va_putF (D := D) (ci := 8) (v := .ref q_2) (ty := .array (.object "Chainwork$Term")) (C := RX8) (T := TX8) (N := 11) hx hb ht zinX8 tyX8 tyX8_ok nmX8 hown hK hP hD hS 0 rfl rfl 2 (by decide) (ht _ zw_186) (fun _ h9 => h9) rfl hin rfl (by decide +kernel) rfl rfl (Nat.le_of_ble_eq_true rfl) dX8_init_23 (fun H locs hP hD hS => ?_)
  have hP : va_P D vwCl [(b, .inr (8, [.ref q_1, .int 0, .ref q_2, .null, .int 0, .null, .int 0, .null, .int 0, .null, .int 0])), (q_1, .inl (cA_1, 4, .inr (.inr (.inr (.inr (fun _ => none)))))), (q_2, .inl (cA_2, 10, .inr (.inr (.inr (.inr (fun _ => none))))))] H := hP
  have hD : va_D A [(b, .inr (8, [.ref q_1, .int 0, .ref q_2, .null, .int 0, .null, .int 0, .null, .int 0, .null, .int 0])), (q_1, .inl (cA_1, 4, .inr (.inr (.inr (.inr (fun _ => none)))))), (q_2, .inl (cA_2, 10, .inr (.inr (.inr (.inr (fun _ => none))))))] := hD
  refine lv_aload_n hx hb dX8_init_26 rfl (lv_at hl 0 rfl) ?_
  refine lv_bipush (v := 100) hx hb dX8_init_27 (by decide) ?_
  refine va_newq (C := RX4) hx hb hown (ht _ zw_188) (hX.2.1 _ (by decide +kernel)) hK hP hD hS hA (by decide) rfl (Nat.le_of_ble_eq_true rfl) (Nat.le_of_ble_eq_true rfl) (Nat.le_of_ble_eq_true rfl) dX8_init_29 (fun q_3 cA_3 H hK hP hD hS => ?_)
  have hP : va_P D vwCl [(b, .inr (8, [.ref q_1, .int 0, .ref q_2, .null, .int 0, .null, .int 0, .null, .int 0, .null, .int 0])), (q_1, .inl (cA_1, 4, .inr (.inr (.inr (.inr (fun _ => none)))))), (q_2, .inl (cA_2, 10, .inr (.inr (.inr (.inr (fun _ => none)))))), (q_3, .inl (cA_3, 100, .inr (.inr (.inr (.inr (fun _ => none))))))] H := hP
  have hD : va_D A [(b, .inr (8, [.ref q_1, .int 0, .ref q_2, .null, .int 0, .null, .int 0, .null, .int 0, .null, .int 0])), (q_1, .inl (cA_1, 4, .inr (.inr (.inr (.inr (fun _ => none)))))), (q_2, .inl (cA_2, 10, .inr (.inr (.inr (.inr (fun _ => none)))))), (q_3, .inl (cA_3, 100, .inr (.inr (.inr (.inr (fun _ => none))))))] := hD
  have hK : va_K D vwCl [(cA_1, .object RX7), (cA_2, .object RX9), (cA_3, .object RX4)] s := hK
  refine W.widen (k := 3) (n := 114) (Nat.le_of_ble_eq_true rfl) (Nat.le_of_ble_eq_true rfl) ?_
  refine va_putF (D := D) (ci := 8) (v := .ref q_3) (ty := .array (.object "Chainwork$Law")) (C := RX8) (T := TX8) (N := 11) hx hb ht zinX8 tyX8 tyX8_ok nmX8 hown hK hP hD hS 0 rfl rfl 3 (by decide) (ht _ zw_189) (fun _ h9 => h9) rfl hin rfl (by decide +kernel) rfl rfl (Nat.le_of_ble_eq_true rfl) dX8_init_32 (fun H locs hP hD hS => ?_)
  have hP : va_P D vwCl [(b, .inr (8, [.ref q_1, .int 0, .ref q_2, .ref q_3, .int 0, .null, .int 0, .null, .int 0, .null, .int 0])), (q_1, .inl (cA_1, 4, .inr (.inr (.inr (.inr (fun _ => none)))))), (q_2, .inl (cA_2, 10, .inr (.inr (.inr (.inr (fun _ => none)))))), (q_3, .inl (cA_3, 100, .inr (.inr (.inr (.inr (fun _ => none))))))] H := hP
  have hD : va_D A [(b, .inr (8, [.ref q_1, .int 0, .ref q_2, .ref q_3, .int 0, .null, .int 0, .null, .int 0, .null, .int 0])), (q_1, .inl (cA_1, 4, .inr (.inr (.inr (.inr (fun _ => none)))))), (q_2, .inl (cA_2, 10, .inr (.inr (.inr (.inr (fun _ => none)))))), (q_3, .inl (cA_3, 100, .inr (.inr (.inr (.inr (fun _ => none))))))] := hD
  refine lv_aload_n hx hb dX8_init_35 rfl (lv_at hl 0 rfl) ?_
  refine lv_iconst (v := 0) hx hb dX8_init_36 (by decide) ?_
  refine va_put (D := D) (ci := 8) (v := .int 0) (ty := .int) (C := RX8) (T := TX8) (N := 11) hx hb ht zinX8 tyX8 tyX8_ok nmX8 hown hK hP hD hS 0 rfl rfl 4 (by decide) (ht _ zw_190) (fun _ h9 => h9) rfl (by decide +kernel) rfl rfl (Nat.le_of_ble_eq_true rfl) dX8_init_37 (fun H locs hP hD hS => ?_)
  have hP : va_P D vwCl [(b, .inr (8, [.ref q_1, .int 0, .ref q_2, .ref q_3, .int 0, .null, .int 0, .null, .int 0, .null, .int 0])), (q_1, .inl (cA_1, 4, .inr (.inr (.inr (.inr (fun _ => none)))))), (q_2, .inl (cA_2, 10, .inr (.inr (.inr (.inr (fun _ => none)))))), (q_3, .inl (cA_3, 100, .inr (.inr (.inr (.inr (fun _ => none))))))] H := hP
  have hD : va_D A [(b, .inr (8, [.ref q_1, .int 0, .ref q_2, .ref q_3, .int 0, .null, .int 0, .null, .int 0, .null, .int 0])), (q_1, .inl (cA_1, 4, .inr (.inr (.inr (.inr (fun _ => none)))))), (q_2, .inl (cA_2, 10, .inr (.inr (.inr (.inr (fun _ => none)))))), (q_3, .inl (cA_3, 100, .inr (.inr (.inr (.inr (fun _ => none))))))] := hD
  refine lv_aload_n hx hb dX8_init_40 rfl (lv_at hl 0 rfl) ?_
  refine lv_iconst (v := 4) hx hb dX8_init_41 (by decide) ?_
  refine va_newq (C := RX2) hx hb hown (ht _ zw_192) (hX.2.1 _ (by decide +kernel)) hK hP hD hS hA (by decide) rfl (Nat.le_of_ble_eq_true rfl) (Nat.le_of_ble_eq_true rfl) (Nat.le_of_ble_eq_true rfl) dX8_init_42 (fun q_4 cA_4 H hK hP hD hS => ?_)
  have hP : va_P D vwCl [(b, .inr (8, [.ref q_1, .int 0, .ref q_2, .ref q_3, .int 0, .null, .int 0, .null, .int 0, .null, .int 0])), (q_1, .inl (cA_1, 4, .inr (.inr (.inr (.inr (fun _ => none)))))), (q_2, .inl (cA_2, 10, .inr (.inr (.inr (.inr (fun _ => none)))))), (q_3, .inl (cA_3, 100, .inr (.inr (.inr (.inr (fun _ => none)))))), (q_4, .inl (cA_4, 4, .inr (.inr (.inr (.inr (fun _ => none))))))] H := hP
  have hD : va_D A [(b, .inr (8, [.ref q_1, .int 0, .ref q_2, .ref q_3, .int 0, .null, .int 0, .null, .int 0, .null, .int 0])), (q_1, .inl (cA_1, 4, .inr (.inr (.inr (.inr (fun _ => none)))))), (q_2, .inl (cA_2, 10, .inr (.inr (.inr (.inr (fun _ => none)))))), (q_3, .inl (cA_3, 100, .inr (.inr (.inr (.inr (fun _ => none)))))), (q_4, .inl (cA_4, 4, .inr (.inr (.inr (.inr (fun _ => none))))))] := hD
  have hK : va_K D vwCl [(cA_1, .object RX7), (cA_2, .object RX9), (cA_3, .object RX4), (cA_4, .object RX2)] s := hK
  refine W.widen (k := 4) (n := 118) (Nat.le_of_ble_eq_true rfl) (Nat.le_of_ble_eq_true rfl) ?_
  refine va_putF (D := D) (ci := 8) (v := .ref q_4) (ty := .array (.object "Chainwork$Equivalence")) (C := RX8) (T := TX8) (N := 11) hx hb ht zinX8 tyX8 tyX8_ok nmX8 hown hK hP hD hS 0 rfl rfl 5 (by decide) (ht _ zw_193) (fun _ h9 => h9) rfl hin rfl (by decide +kernel) rfl rfl (Nat.le_of_ble_eq_true rfl) dX8_init_45 (fun H locs hP hD hS => ?_)
  have hP : va_P D vwCl [(b, .inr (8, [.ref q_1, .int 0, .ref q_2, .ref q_3, .int 0, .ref q_4, .int 0, .null, .int 0, .null, .int 0])), (q_1, .inl (cA_1, 4, .inr (.inr (.inr (.inr (fun _ => none)))))), (q_2, .inl (cA_2, 10, .inr (.inr (.inr (.inr (fun _ => none)))))), (q_3, .inl (cA_3, 100, .inr (.inr (.inr (.inr (fun _ => none)))))), (q_4, .inl (cA_4, 4, .inr (.inr (.inr (.inr (fun _ => none))))))] H := hP
  have hD : va_D A [(b, .inr (8, [.ref q_1, .int 0, .ref q_2, .ref q_3, .int 0, .ref q_4, .int 0, .null, .int 0, .null, .int 0])), (q_1, .inl (cA_1, 4, .inr (.inr (.inr (.inr (fun _ => none)))))), (q_2, .inl (cA_2, 10, .inr (.inr (.inr (.inr (fun _ => none)))))), (q_3, .inl (cA_3, 100, .inr (.inr (.inr (.inr (fun _ => none)))))), (q_4, .inl (cA_4, 4, .inr (.inr (.inr (.inr (fun _ => none))))))] := hD
  refine lv_aload_n hx hb dX8_init_48 rfl (lv_at hl 0 rfl) ?_
  refine lv_iconst (v := 0) hx hb dX8_init_49 (by decide) ?_
  refine va_put (D := D) (ci := 8) (v := .int 0) (ty := .int) (C := RX8) (T := TX8) (N := 11) hx hb ht zinX8 tyX8 tyX8_ok nmX8 hown hK hP hD hS 0 rfl rfl 6 (by decide) (ht _ zw_194) (fun _ h9 => h9) rfl (by decide +kernel) rfl rfl (Nat.le_of_ble_eq_true rfl) dX8_init_50 (fun H locs hP hD hS => ?_)
  have hP : va_P D vwCl [(b, .inr (8, [.ref q_1, .int 0, .ref q_2, .ref q_3, .int 0, .ref q_4, .int 0, .null, .int 0, .null, .int 0])), (q_1, .inl (cA_1, 4, .inr (.inr (.inr (.inr (fun _ => none)))))), (q_2, .inl (cA_2, 10, .inr (.inr (.inr (.inr (fun _ => none)))))), (q_3, .inl (cA_3, 100, .inr (.inr (.inr (.inr (fun _ => none)))))), (q_4, .inl (cA_4, 4, .inr (.inr (.inr (.inr (fun _ => none))))))] H := hP
  have hD : va_D A [(b, .inr (8, [.ref q_1, .int 0, .ref q_2, .ref q_3, .int 0, .ref q_4, .int 0, .null, .int 0, .null, .int 0])), (q_1, .inl (cA_1, 4, .inr (.inr (.inr (.inr (fun _ => none)))))), (q_2, .inl (cA_2, 10, .inr (.inr (.inr (.inr (fun _ => none)))))), (q_3, .inl (cA_3, 100, .inr (.inr (.inr (.inr (fun _ => none)))))), (q_4, .inl (cA_4, 4, .inr (.inr (.inr (.inr (fun _ => none))))))] := hD
  refine lv_aload_n hx hb dX8_init_53 rfl (lv_at hl 0 rfl) ?_
  refine lv_iconst (v := 3) hx hb dX8_init_54 (by decide) ?_
  refine va_newq (C := RX4) hx hb hown (ht _ zw_188) (hX.2.1 _ (by decide +kernel)) hK hP hD hS hA (by decide) rfl (Nat.le_of_ble_eq_true rfl) (Nat.le_of_ble_eq_true rfl) (Nat.le_of_ble_eq_true rfl) dX8_init_55 (fun q_5 cA_5 H hK hP hD hS => ?_)
  have hcc : cA_3 = cA_5 := za_same hK 2 4 rfl rfl
  subst hcc
  have hK := hK.sub (tys' := [(cA_1, .object RX7), (cA_2, .object RX9), (cA_3, .object RX4), (cA_4, .object RX2)]) [0, 1, 2, 3] rfl
  have hP : va_P D vwCl [(b, .inr (8, [.ref q_1, .int 0, .ref q_2, .ref q_3, .int 0, .ref q_4, .int 0, .null, .int 0, .null, .int 0])), (q_1, .inl (cA_1, 4, .inr (.inr (.inr (.inr (fun _ => none)))))), (q_2, .inl (cA_2, 10, .inr (.inr (.inr (.inr (fun _ => none)))))), (q_3, .inl (cA_3, 100, .inr (.inr (.inr (.inr (fun _ => none)))))), (q_4, .inl (cA_4, 4, .inr (.inr (.inr (.inr (fun _ => none)))))), (q_5, .inl (cA_3, 3, .inr (.inr (.inr (.inr (fun _ => none))))))] H := hP
  have hD : va_D A [(b, .inr (8, [.ref q_1, .int 0, .ref q_2, .ref q_3, .int 0, .ref q_4, .int 0, .null, .int 0, .null, .int 0])), (q_1, .inl (cA_1, 4, .inr (.inr (.inr (.inr (fun _ => none)))))), (q_2, .inl (cA_2, 10, .inr (.inr (.inr (.inr (fun _ => none)))))), (q_3, .inl (cA_3, 100, .inr (.inr (.inr (.inr (fun _ => none)))))), (q_4, .inl (cA_4, 4, .inr (.inr (.inr (.inr (fun _ => none)))))), (q_5, .inl (cA_3, 3, .inr (.inr (.inr (.inr (fun _ => none))))))] := hD
  have hK : va_K D vwCl [(cA_1, .object RX7), (cA_2, .object RX9), (cA_3, .object RX4), (cA_4, .object RX2)] s := hK
  refine W.widen (k := 5) (n := 121) (Nat.le_of_ble_eq_true rfl) (Nat.le_of_ble_eq_true rfl) ?_
  refine va_putF (D := D) (ci := 8) (v := .ref q_5) (ty := .array (.object "Chainwork$Law")) (C := RX8) (T := TX8) (N := 11) hx hb ht zinX8 tyX8 tyX8_ok nmX8 hown hK hP hD hS 0 rfl rfl 7 (by decide) (ht _ zw_195) (fun _ h9 => h9) rfl hin rfl (by decide +kernel) rfl rfl (Nat.le_of_ble_eq_true rfl) dX8_init_58 (fun H locs hP hD hS => ?_)
  have hP : va_P D vwCl [(b, .inr (8, [.ref q_1, .int 0, .ref q_2, .ref q_3, .int 0, .ref q_4, .int 0, .ref q_5, .int 0, .null, .int 0])), (q_1, .inl (cA_1, 4, .inr (.inr (.inr (.inr (fun _ => none)))))), (q_2, .inl (cA_2, 10, .inr (.inr (.inr (.inr (fun _ => none)))))), (q_3, .inl (cA_3, 100, .inr (.inr (.inr (.inr (fun _ => none)))))), (q_4, .inl (cA_4, 4, .inr (.inr (.inr (.inr (fun _ => none)))))), (q_5, .inl (cA_3, 3, .inr (.inr (.inr (.inr (fun _ => none))))))] H := hP
  have hD : va_D A [(b, .inr (8, [.ref q_1, .int 0, .ref q_2, .ref q_3, .int 0, .ref q_4, .int 0, .ref q_5, .int 0, .null, .int 0])), (q_1, .inl (cA_1, 4, .inr (.inr (.inr (.inr (fun _ => none)))))), (q_2, .inl (cA_2, 10, .inr (.inr (.inr (.inr (fun _ => none)))))), (q_3, .inl (cA_3, 100, .inr (.inr (.inr (.inr (fun _ => none)))))), (q_4, .inl (cA_4, 4, .inr (.inr (.inr (.inr (fun _ => none)))))), (q_5, .inl (cA_3, 3, .inr (.inr (.inr (.inr (fun _ => none))))))] := hD
  refine lv_aload_n hx hb dX8_init_61 rfl (lv_at hl 0 rfl) ?_
  refine lv_iconst (v := 0) hx hb dX8_init_62 (by decide) ?_
  refine va_put (D := D) (ci := 8) (v := .int 0) (ty := .int) (C := RX8) (T := TX8) (N := 11) hx hb ht zinX8 tyX8 tyX8_ok nmX8 hown hK hP hD hS 0 rfl rfl 8 (by decide) (ht _ zw_196) (fun _ h9 => h9) rfl (by decide +kernel) rfl rfl (Nat.le_of_ble_eq_true rfl) dX8_init_63 (fun H locs hP hD hS => ?_)
  have hP : va_P D vwCl [(b, .inr (8, [.ref q_1, .int 0, .ref q_2, .ref q_3, .int 0, .ref q_4, .int 0, .ref q_5, .int 0, .null, .int 0])), (q_1, .inl (cA_1, 4, .inr (.inr (.inr (.inr (fun _ => none)))))), (q_2, .inl (cA_2, 10, .inr (.inr (.inr (.inr (fun _ => none)))))), (q_3, .inl (cA_3, 100, .inr (.inr (.inr (.inr (fun _ => none)))))), (q_4, .inl (cA_4, 4, .inr (.inr (.inr (.inr (fun _ => none)))))), (q_5, .inl (cA_3, 3, .inr (.inr (.inr (.inr (fun _ => none))))))] H := hP
  have hD : va_D A [(b, .inr (8, [.ref q_1, .int 0, .ref q_2, .ref q_3, .int 0, .ref q_4, .int 0, .ref q_5, .int 0, .null, .int 0])), (q_1, .inl (cA_1, 4, .inr (.inr (.inr (.inr (fun _ => none)))))), (q_2, .inl (cA_2, 10, .inr (.inr (.inr (.inr (fun _ => none)))))), (q_3, .inl (cA_3, 100, .inr (.inr (.inr (.inr (fun _ => none)))))), (q_4, .inl (cA_4, 4, .inr (.inr (.inr (.inr (fun _ => none)))))), (q_5, .inl (cA_3, 3, .inr (.inr (.inr (.inr (fun _ => none))))))] := hD
  refine lv_aload_n hx hb dX8_init_66 rfl (lv_at hl 0 rfl) ?_
  refine lv_iconst (v := 4) hx hb dX8_init_67 (by decide) ?_
  refine va_newq (C := RX0) hx hb hown (ht _ zw_198) (hX.2.1 _ (by decide +kernel)) hK hP hD hS hA (by decide) rfl (Nat.le_of_ble_eq_true rfl) (Nat.le_of_ble_eq_true rfl) (Nat.le_of_ble_eq_true rfl) dX8_init_68 (fun q_6 cA_6 H hK hP hD hS => ?_)
  have hP : va_P D vwCl [(b, .inr (8, [.ref q_1, .int 0, .ref q_2, .ref q_3, .int 0, .ref q_4, .int 0, .ref q_5, .int 0, .null, .int 0])), (q_1, .inl (cA_1, 4, .inr (.inr (.inr (.inr (fun _ => none)))))), (q_2, .inl (cA_2, 10, .inr (.inr (.inr (.inr (fun _ => none)))))), (q_3, .inl (cA_3, 100, .inr (.inr (.inr (.inr (fun _ => none)))))), (q_4, .inl (cA_4, 4, .inr (.inr (.inr (.inr (fun _ => none)))))), (q_5, .inl (cA_3, 3, .inr (.inr (.inr (.inr (fun _ => none)))))), (q_6, .inl (cA_6, 4, .inr (.inr (.inr (.inr (fun _ => none))))))] H := hP
  have hD : va_D A [(b, .inr (8, [.ref q_1, .int 0, .ref q_2, .ref q_3, .int 0, .ref q_4, .int 0, .ref q_5, .int 0, .null, .int 0])), (q_1, .inl (cA_1, 4, .inr (.inr (.inr (.inr (fun _ => none)))))), (q_2, .inl (cA_2, 10, .inr (.inr (.inr (.inr (fun _ => none)))))), (q_3, .inl (cA_3, 100, .inr (.inr (.inr (.inr (fun _ => none)))))), (q_4, .inl (cA_4, 4, .inr (.inr (.inr (.inr (fun _ => none)))))), (q_5, .inl (cA_3, 3, .inr (.inr (.inr (.inr (fun _ => none)))))), (q_6, .inl (cA_6, 4, .inr (.inr (.inr (.inr (fun _ => none))))))] := hD
  have hK : va_K D vwCl [(cA_1, .object RX7), (cA_2, .object RX9), (cA_3, .object RX4), (cA_4, .object RX2), (cA_6, .object RX0)] s := hK
  refine W.widen (k := 6) (n := 125) (Nat.le_of_ble_eq_true rfl) (Nat.le_of_ble_eq_true rfl) ?_
  refine va_putF (D := D) (ci := 8) (v := .ref q_6) (ty := .array (.object "Chainwork$Chain")) (C := RX8) (T := TX8) (N := 11) hx hb ht zinX8 tyX8 tyX8_ok nmX8 hown hK hP hD hS 0 rfl rfl 9 (by decide) (ht _ zw_199) (fun _ h9 => h9) rfl hin rfl (by decide +kernel) rfl rfl (Nat.le_of_ble_eq_true rfl) dX8_init_71 (fun H locs hP hD hS => ?_)
  have hP : va_P D vwCl [(b, .inr (8, [.ref q_1, .int 0, .ref q_2, .ref q_3, .int 0, .ref q_4, .int 0, .ref q_5, .int 0, .ref q_6, .int 0])), (q_1, .inl (cA_1, 4, .inr (.inr (.inr (.inr (fun _ => none)))))), (q_2, .inl (cA_2, 10, .inr (.inr (.inr (.inr (fun _ => none)))))), (q_3, .inl (cA_3, 100, .inr (.inr (.inr (.inr (fun _ => none)))))), (q_4, .inl (cA_4, 4, .inr (.inr (.inr (.inr (fun _ => none)))))), (q_5, .inl (cA_3, 3, .inr (.inr (.inr (.inr (fun _ => none)))))), (q_6, .inl (cA_6, 4, .inr (.inr (.inr (.inr (fun _ => none))))))] H := hP
  have hD : va_D A [(b, .inr (8, [.ref q_1, .int 0, .ref q_2, .ref q_3, .int 0, .ref q_4, .int 0, .ref q_5, .int 0, .ref q_6, .int 0])), (q_1, .inl (cA_1, 4, .inr (.inr (.inr (.inr (fun _ => none)))))), (q_2, .inl (cA_2, 10, .inr (.inr (.inr (.inr (fun _ => none)))))), (q_3, .inl (cA_3, 100, .inr (.inr (.inr (.inr (fun _ => none)))))), (q_4, .inl (cA_4, 4, .inr (.inr (.inr (.inr (fun _ => none)))))), (q_5, .inl (cA_3, 3, .inr (.inr (.inr (.inr (fun _ => none)))))), (q_6, .inl (cA_6, 4, .inr (.inr (.inr (.inr (fun _ => none))))))] := hD
  refine lv_aload_n hx hb dX8_init_74 rfl (lv_at hl 0 rfl) ?_
  refine lv_iconst (v := 0) hx hb dX8_init_75 (by decide) ?_
  refine va_put (D := D) (ci := 8) (v := .int 0) (ty := .int) (C := RX8) (T := TX8) (N := 11) hx hb ht zinX8 tyX8 tyX8_ok nmX8 hown hK hP hD hS 0 rfl rfl 10 (by decide) (ht _ zw_200) (fun _ h9 => h9) rfl (by decide +kernel) rfl rfl (Nat.le_of_ble_eq_true rfl) dX8_init_76 (fun H locs hP hD hS => ?_)
  have hP : va_P D vwCl [(b, .inr (8, [.ref q_1, .int 0, .ref q_2, .ref q_3, .int 0, .ref q_4, .int 0, .ref q_5, .int 0, .ref q_6, .int 0])), (q_1, .inl (cA_1, 4, .inr (.inr (.inr (.inr (fun _ => none)))))), (q_2, .inl (cA_2, 10, .inr (.inr (.inr (.inr (fun _ => none)))))), (q_3, .inl (cA_3, 100, .inr (.inr (.inr (.inr (fun _ => none)))))), (q_4, .inl (cA_4, 4, .inr (.inr (.inr (.inr (fun _ => none)))))), (q_5, .inl (cA_3, 3, .inr (.inr (.inr (.inr (fun _ => none)))))), (q_6, .inl (cA_6, 4, .inr (.inr (.inr (.inr (fun _ => none))))))] H := hP
  have hD : va_D A [(b, .inr (8, [.ref q_1, .int 0, .ref q_2, .ref q_3, .int 0, .ref q_4, .int 0, .ref q_5, .int 0, .ref q_6, .int 0])), (q_1, .inl (cA_1, 4, .inr (.inr (.inr (.inr (fun _ => none)))))), (q_2, .inl (cA_2, 10, .inr (.inr (.inr (.inr (fun _ => none)))))), (q_3, .inl (cA_3, 100, .inr (.inr (.inr (.inr (fun _ => none)))))), (q_4, .inl (cA_4, 4, .inr (.inr (.inr (.inr (fun _ => none)))))), (q_5, .inl (cA_3, 3, .inr (.inr (.inr (.inr (fun _ => none)))))), (q_6, .inl (cA_6, 4, .inr (.inr (.inr (.inr (fun _ => none))))))] := hD
  refine va_new (ci := 0) (fs := [.null, .null, .int 0]) (C := RX0) (T := TX0) (N := 3) hx hb ht zinX0 tyX0 tyX0_ok hown (ht _ zw_198) (ht _ zw_201) (ht _ zw_202) hK hP hD hS hA rfl (fun j hj => by rcases (show j = 0 ∨ j = 1 ∨ j = 2 by omega) with rfl | rfl | rfl <;> rfl) (Nat.le_of_ble_eq_true rfl) (Nat.le_of_ble_eq_true rfl) dX8_init_79 (fun q_7 H hP hD hS => ?_)
  have hP : va_P D vwCl [(b, .inr (8, [.ref q_1, .int 0, .ref q_2, .ref q_3, .int 0, .ref q_4, .int 0, .ref q_5, .int 0, .ref q_6, .int 0])), (q_1, .inl (cA_1, 4, .inr (.inr (.inr (.inr (fun _ => none)))))), (q_2, .inl (cA_2, 10, .inr (.inr (.inr (.inr (fun _ => none)))))), (q_3, .inl (cA_3, 100, .inr (.inr (.inr (.inr (fun _ => none)))))), (q_4, .inl (cA_4, 4, .inr (.inr (.inr (.inr (fun _ => none)))))), (q_5, .inl (cA_3, 3, .inr (.inr (.inr (.inr (fun _ => none)))))), (q_6, .inl (cA_6, 4, .inr (.inr (.inr (.inr (fun _ => none)))))), (q_7, .inr (0, [.null, .null, .int 0]))] H := hP
  have hD : va_D A [(b, .inr (8, [.ref q_1, .int 0, .ref q_2, .ref q_3, .int 0, .ref q_4, .int 0, .ref q_5, .int 0, .ref q_6, .int 0])), (q_1, .inl (cA_1, 4, .inr (.inr (.inr (.inr (fun _ => none)))))), (q_2, .inl (cA_2, 10, .inr (.inr (.inr (.inr (fun _ => none)))))), (q_3, .inl (cA_3, 100, .inr (.inr (.inr (.inr (fun _ => none)))))), (q_4, .inl (cA_4, 4, .inr (.inr (.inr (.inr (fun _ => none)))))), (q_5, .inl (cA_3, 3, .inr (.inr (.inr (.inr (fun _ => none)))))), (q_6, .inl (cA_6, 4, .inr (.inr (.inr (.inr (fun _ => none)))))), (q_7, .inr (0, [.null, .null, .int 0]))] := hD
  refine W.widen (k := 7) (n := 128) (Nat.le_of_ble_eq_true rfl) (Nat.le_of_ble_eq_true rfl) ?_
  refine lv_dup hx hb dX8_init_82 rfl ?_
  have hPc := hP.sub (ws' := [(q_7, .inr (0, [.null, .null, .int 0]))]) [7] rfl
  have hDc := hD.sub (ws' := [(q_7, .inr (0, [.null, .null, .int 0]))]) [7] (by decide) rfl
  have hKc := hK.sub (tys' := []) [] rfl
  have hFc := va_free (wc := [(q_7, .inr (0, [.null, .null, .int 0]))]) hD hS hA [7] rfl
  refine va_callv (va_runIN (As := []) (rest := [.ref q_7]) ⟨hx, hb, hml, hown, ht⟩ (k_X0_init l _ D q_7) ⟨va_cnB 0 ht (zG zw_203) rfl rfl rfl (hX.1 _ (List.mem_of_getElem? (i := 0) rfl)) (ht _ zw_202) (by decide +kernel) ⟨Nat.le_of_ble_eq_true rfl, Nat.le_of_ble_eq_true rfl⟩, rfl, ht _ zw_204⟩ (zXw_I (fun _ _ => zTab.warm) hX hPc hKc hDc) rfl rfl hl.1 rfl (lv_room (Nat.le_of_ble_eq_true rfl)) dX8_init_83 ⟨Nat.le_of_ble_eq_true rfl, Nat.le_of_ble_eq_true rfl⟩) hS (fun q _ h => hFc q h) hFc (fun u_8 t H1 locs ht0 hvm hw_8 hB hz1 hk1 hS => ?_)
  obtain ⟨qa_8, qb_8, hB⟩ := hB
  obtain ⟨hP1, hK1, hD1⟩ := hB
  rw [ht0] at hP1
  have hK1 := va_K.moved hvm.symm hK1
  obtain ⟨hP, hD⟩ := va_join (wr := [(b, .inr (8, [.ref q_1, .int 0, .ref q_2, .ref q_3, .int 0, .ref q_4, .int 0, .ref q_5, .int 0, .ref q_6, .int 0])), (q_1, .inl (cA_1, 4, .inr (.inr (.inr (.inr (fun _ => none)))))), (q_2, .inl (cA_2, 10, .inr (.inr (.inr (.inr (fun _ => none)))))), (q_3, .inl (cA_3, 100, .inr (.inr (.inr (.inr (fun _ => none)))))), (q_4, .inl (cA_4, 4, .inr (.inr (.inr (.inr (fun _ => none)))))), (q_5, .inl (cA_3, 3, .inr (.inr (.inr (.inr (fun _ => none)))))), (q_6, .inl (cA_6, 4, .inr (.inr (.inr (.inr (fun _ => none))))))]) (w1 := [(q_7, .inr (0, [.ref qa_8, .ref qb_8, .int 0]))]) hP hD [7] [0, 1, 2, 3, 4, 5, 6] rfl rfl (by decide) (by decide) hk1 hFc hP1 hD1
  generalize H1 = H at hP hS ⊢
  have hP : va_P D vwCl [(b, .inr (8, [.ref q_1, .int 0, .ref q_2, .ref q_3, .int 0, .ref q_4, .int 0, .ref q_5, .int 0, .ref q_6, .int 0])), (q_1, .inl (cA_1, 4, .inr (.inr (.inr (.inr (fun _ => none)))))), (q_2, .inl (cA_2, 10, .inr (.inr (.inr (.inr (fun _ => none)))))), (q_3, .inl (cA_3, 100, .inr (.inr (.inr (.inr (fun _ => none)))))), (q_4, .inl (cA_4, 4, .inr (.inr (.inr (.inr (fun _ => none)))))), (q_5, .inl (cA_3, 3, .inr (.inr (.inr (.inr (fun _ => none)))))), (q_6, .inl (cA_6, 4, .inr (.inr (.inr (.inr (fun _ => none)))))), (q_7, .inr (0, [.ref qa_8, .ref qb_8, .int 0]))] H := hP
  have hD : va_D A [(b, .inr (8, [.ref q_1, .int 0, .ref q_2, .ref q_3, .int 0, .ref q_4, .int 0, .ref q_5, .int 0, .ref q_6, .int 0])), (q_1, .inl (cA_1, 4, .inr (.inr (.inr (.inr (fun _ => none)))))), (q_2, .inl (cA_2, 10, .inr (.inr (.inr (.inr (fun _ => none)))))), (q_3, .inl (cA_3, 100, .inr (.inr (.inr (.inr (fun _ => none)))))), (q_4, .inl (cA_4, 4, .inr (.inr (.inr (.inr (fun _ => none)))))), (q_5, .inl (cA_3, 3, .inr (.inr (.inr (.inr (fun _ => none)))))), (q_6, .inl (cA_6, 4, .inr (.inr (.inr (.inr (fun _ => none)))))), (q_7, .inr (0, [.ref qa_8, .ref qb_8, .int 0]))] := hD
  refine W.widen (k := 9) (n := 152) (Nat.le_of_ble_eq_true rfl) (Nat.le_of_ble_eq_true rfl) ?_
  refine lv_astore_n (lv' := [(1, .ref q_7), (0, .ref b)]) hx hb dX8_init_86 rfl hl (by decide) rfl (fun ls hl => ?_)
  refine lv_iconst (v := 0) hx hb dX8_init_87 (by decide) ?_
  refine lv_istore_n (lv' := [(2, .int 0), (1, .ref q_7), (0, .ref b)]) hx hb dX8_init_88 rfl hl (by decide) rfl (fun ls hl => ?_)
  refine lv_iload_n hx hb dX8_init_89 rfl (lv_at hl 0 rfl) ?_
  refine lv_iconst (v := 4) hx hb dX8_init_90 (by decide) ?_
  refine lv_icmp_ge (tgt := 107) hx hb dX8_init_91 (by decide) (fun c_9 => ?_) (fun c_9 => ?_)
  · skip
    exact absurd c_9 (by decide)
  · skip
    refine lv_aload_n hx hb dX8_init_94 rfl (lv_at hl 2 rfl) ?_
    refine va_get (D := D) (ci := 8) (v := .ref q_6) (C := RX8) (T := TX8) (N := 11) hx hb ht zinX8 hown hK hP 0 rfl rfl 9 (by decide) (ht _ zw_199) (fun _ h9 => h9) rfl dX8_init_95 ?_
    refine lv_iload_n hx hb dX8_init_98 rfl (lv_at hl 0 rfl) ?_
    refine lv_aload_n hx hb dX8_init_99 rfl (lv_at hl 1 rfl) ?_
    refine va_astq (r := (RX0, TX0, 3)) hx hb hK hP hD hS 6 4 7 0 rfl rfl rfl rfl (vp_in_iff.mpr (by decide)) dX8_init_100 (fun H locs hP hD hS => ?_)
    have hP : va_P D vwCl [(b, .inr (8, [.ref q_1, .int 0, .ref q_2, .ref q_3, .int 0, .ref q_4, .int 0, .ref q_5, .int 0, .ref q_6, .int 0])), (q_1, .inl (cA_1, 4, .inr (.inr (.inr (.inr (fun _ => none)))))), (q_2, .inl (cA_2, 10, .inr (.inr (.inr (.inr (fun _ => none)))))), (q_3, .inl (cA_3, 100, .inr (.inr (.inr (.inr (fun _ => none)))))), (q_4, .inl (cA_4, 4, .inr (.inr (.inr (.inr (fun _ => none)))))), (q_5, .inl (cA_3, 3, .inr (.inr (.inr (.inr (fun _ => none)))))), (q_6, .inl (cA_6, 4, .inr (.inr (.inr (.inr (va_up (fun _ => none) 0 (some q_7))))))), (q_7, .inr (0, [.ref qa_8, .ref qb_8, .int 0]))] H := hP
    have hD : va_D A [(b, .inr (8, [.ref q_1, .int 0, .ref q_2, .ref q_3, .int 0, .ref q_4, .int 0, .ref q_5, .int 0, .ref q_6, .int 0])), (q_1, .inl (cA_1, 4, .inr (.inr (.inr (.inr (fun _ => none)))))), (q_2, .inl (cA_2, 10, .inr (.inr (.inr (.inr (fun _ => none)))))), (q_3, .inl (cA_3, 100, .inr (.inr (.inr (.inr (fun _ => none)))))), (q_4, .inl (cA_4, 4, .inr (.inr (.inr (.inr (fun _ => none)))))), (q_5, .inl (cA_3, 3, .inr (.inr (.inr (.inr (fun _ => none)))))), (q_6, .inl (cA_6, 4, .inr (.inr (.inr (.inr (va_up (fun _ => none) 0 (some q_7))))))), (q_7, .inr (0, [.ref qa_8, .ref qb_8, .int 0]))] := hD
    refine lv_iinc (v := 1) (lv' := [(2, .int 1), (1, .ref q_7), (0, .ref b)]) hx hb dX8_init_101 hl (k := 0) rfl (by decide) (by decide) rfl (fun ls hl => ?_)
    refine lv_goto (tgt := 89) hx hb dX8_init_104 (by decide) ?_
    refine lv_iload_n hx hb dX8_init_89 rfl (lv_at hl 0 rfl) ?_
    refine lv_iconst (v := 4) hx hb dX8_init_90 (by decide) ?_
    refine lv_icmp_ge (tgt := 107) hx hb dX8_init_91 (by decide) (fun c_11 => ?_) (fun c_11 => ?_)
    · skip
      exact absurd c_11 (by decide)
    · skip
      refine lv_aload_n hx hb dX8_init_94 rfl (lv_at hl 2 rfl) ?_
      refine va_get (D := D) (ci := 8) (v := .ref q_6) (C := RX8) (T := TX8) (N := 11) hx hb ht zinX8 hown hK hP 0 rfl rfl 9 (by decide) (ht _ zw_199) (fun _ h9 => h9) rfl dX8_init_95 ?_
      refine lv_iload_n hx hb dX8_init_98 rfl (lv_at hl 0 rfl) ?_
      refine lv_aload_n hx hb dX8_init_99 rfl (lv_at hl 1 rfl) ?_
      refine va_astq (r := (RX0, TX0, 3)) hx hb hK hP hD hS 6 4 7 0 rfl rfl rfl rfl (vp_in_iff.mpr (by decide)) dX8_init_100 (fun H locs hP hD hS => ?_)
      have hP : va_P D vwCl [(b, .inr (8, [.ref q_1, .int 0, .ref q_2, .ref q_3, .int 0, .ref q_4, .int 0, .ref q_5, .int 0, .ref q_6, .int 0])), (q_1, .inl (cA_1, 4, .inr (.inr (.inr (.inr (fun _ => none)))))), (q_2, .inl (cA_2, 10, .inr (.inr (.inr (.inr (fun _ => none)))))), (q_3, .inl (cA_3, 100, .inr (.inr (.inr (.inr (fun _ => none)))))), (q_4, .inl (cA_4, 4, .inr (.inr (.inr (.inr (fun _ => none)))))), (q_5, .inl (cA_3, 3, .inr (.inr (.inr (.inr (fun _ => none)))))), (q_6, .inl (cA_6, 4, .inr (.inr (.inr (.inr (va_up (va_up (fun _ => none) 0 (some q_7)) 1 (some q_7))))))), (q_7, .inr (0, [.ref qa_8, .ref qb_8, .int 0]))] H := hP
      have hD : va_D A [(b, .inr (8, [.ref q_1, .int 0, .ref q_2, .ref q_3, .int 0, .ref q_4, .int 0, .ref q_5, .int 0, .ref q_6, .int 0])), (q_1, .inl (cA_1, 4, .inr (.inr (.inr (.inr (fun _ => none)))))), (q_2, .inl (cA_2, 10, .inr (.inr (.inr (.inr (fun _ => none)))))), (q_3, .inl (cA_3, 100, .inr (.inr (.inr (.inr (fun _ => none)))))), (q_4, .inl (cA_4, 4, .inr (.inr (.inr (.inr (fun _ => none)))))), (q_5, .inl (cA_3, 3, .inr (.inr (.inr (.inr (fun _ => none)))))), (q_6, .inl (cA_6, 4, .inr (.inr (.inr (.inr (va_up (va_up (fun _ => none) 0 (some q_7)) 1 (some q_7))))))), (q_7, .inr (0, [.ref qa_8, .ref qb_8, .int 0]))] := hD
      refine lv_iinc (v := 2) (lv' := [(2, .int 2), (1, .ref q_7), (0, .ref b)]) hx hb dX8_init_101 hl (k := 0) rfl (by decide) (by decide) rfl (fun ls hl => ?_)
      refine lv_goto (tgt := 89) hx hb dX8_init_104 (by decide) ?_
      refine lv_iload_n hx hb dX8_init_89 rfl (lv_at hl 0 rfl) ?_
      refine lv_iconst (v := 4) hx hb dX8_init_90 (by decide) ?_
      refine lv_icmp_ge (tgt := 107) hx hb dX8_init_91 (by decide) (fun c_13 => ?_) (fun c_13 => ?_)
      · skip
        exact absurd c_13 (by decide)
      · skip
        refine lv_aload_n hx hb dX8_init_94 rfl (lv_at hl 2 rfl) ?_
        refine va_get (D := D) (ci := 8) (v := .ref q_6) (C := RX8) (T := TX8) (N := 11) hx hb ht zinX8 hown hK hP 0 rfl rfl 9 (by decide) (ht _ zw_199) (fun _ h9 => h9) rfl dX8_init_95 ?_
        refine lv_iload_n hx hb dX8_init_98 rfl (lv_at hl 0 rfl) ?_
        refine lv_aload_n hx hb dX8_init_99 rfl (lv_at hl 1 rfl) ?_
        refine va_astq (r := (RX0, TX0, 3)) hx hb hK hP hD hS 6 4 7 0 rfl rfl rfl rfl (vp_in_iff.mpr (by decide)) dX8_init_100 (fun H locs hP hD hS => ?_)
        have hP : va_P D vwCl [(b, .inr (8, [.ref q_1, .int 0, .ref q_2, .ref q_3, .int 0, .ref q_4, .int 0, .ref q_5, .int 0, .ref q_6, .int 0])), (q_1, .inl (cA_1, 4, .inr (.inr (.inr (.inr (fun _ => none)))))), (q_2, .inl (cA_2, 10, .inr (.inr (.inr (.inr (fun _ => none)))))), (q_3, .inl (cA_3, 100, .inr (.inr (.inr (.inr (fun _ => none)))))), (q_4, .inl (cA_4, 4, .inr (.inr (.inr (.inr (fun _ => none)))))), (q_5, .inl (cA_3, 3, .inr (.inr (.inr (.inr (fun _ => none)))))), (q_6, .inl (cA_6, 4, .inr (.inr (.inr (.inr (va_up (va_up (va_up (fun _ => none) 0 (some q_7)) 1 (some q_7)) 2 (some q_7))))))), (q_7, .inr (0, [.ref qa_8, .ref qb_8, .int 0]))] H := hP
        have hD : va_D A [(b, .inr (8, [.ref q_1, .int 0, .ref q_2, .ref q_3, .int 0, .ref q_4, .int 0, .ref q_5, .int 0, .ref q_6, .int 0])), (q_1, .inl (cA_1, 4, .inr (.inr (.inr (.inr (fun _ => none)))))), (q_2, .inl (cA_2, 10, .inr (.inr (.inr (.inr (fun _ => none)))))), (q_3, .inl (cA_3, 100, .inr (.inr (.inr (.inr (fun _ => none)))))), (q_4, .inl (cA_4, 4, .inr (.inr (.inr (.inr (fun _ => none)))))), (q_5, .inl (cA_3, 3, .inr (.inr (.inr (.inr (fun _ => none)))))), (q_6, .inl (cA_6, 4, .inr (.inr (.inr (.inr (va_up (va_up (va_up (fun _ => none) 0 (some q_7)) 1 (some q_7)) 2 (some q_7))))))), (q_7, .inr (0, [.ref qa_8, .ref qb_8, .int 0]))] := hD
        refine lv_iinc (v := 3) (lv' := [(2, .int 3), (1, .ref q_7), (0, .ref b)]) hx hb dX8_init_101 hl (k := 0) rfl (by decide) (by decide) rfl (fun ls hl => ?_)
        refine lv_goto (tgt := 89) hx hb dX8_init_104 (by decide) ?_
        refine lv_iload_n hx hb dX8_init_89 rfl (lv_at hl 0 rfl) ?_
        refine lv_iconst (v := 4) hx hb dX8_init_90 (by decide) ?_
        refine lv_icmp_ge (tgt := 107) hx hb dX8_init_91 (by decide) (fun c_15 => ?_) (fun c_15 => ?_)
        · skip
          exact absurd c_15 (by decide)
        · skip
          refine lv_aload_n hx hb dX8_init_94 rfl (lv_at hl 2 rfl) ?_
          refine va_get (D := D) (ci := 8) (v := .ref q_6) (C := RX8) (T := TX8) (N := 11) hx hb ht zinX8 hown hK hP 0 rfl rfl 9 (by decide) (ht _ zw_199) (fun _ h9 => h9) rfl dX8_init_95 ?_
          refine lv_iload_n hx hb dX8_init_98 rfl (lv_at hl 0 rfl) ?_
          refine lv_aload_n hx hb dX8_init_99 rfl (lv_at hl 1 rfl) ?_
          refine va_astq (r := (RX0, TX0, 3)) hx hb hK hP hD hS 6 4 7 0 rfl rfl rfl rfl (vp_in_iff.mpr (by decide)) dX8_init_100 (fun H locs hP hD hS => ?_)
          have hP : va_P D vwCl [(b, .inr (8, [.ref q_1, .int 0, .ref q_2, .ref q_3, .int 0, .ref q_4, .int 0, .ref q_5, .int 0, .ref q_6, .int 0])), (q_1, .inl (cA_1, 4, .inr (.inr (.inr (.inr (fun _ => none)))))), (q_2, .inl (cA_2, 10, .inr (.inr (.inr (.inr (fun _ => none)))))), (q_3, .inl (cA_3, 100, .inr (.inr (.inr (.inr (fun _ => none)))))), (q_4, .inl (cA_4, 4, .inr (.inr (.inr (.inr (fun _ => none)))))), (q_5, .inl (cA_3, 3, .inr (.inr (.inr (.inr (fun _ => none)))))), (q_6, .inl (cA_6, 4, .inr (.inr (.inr (.inr (va_up (va_up (va_up (va_up (fun _ => none) 0 (some q_7)) 1 (some q_7)) 2 (some q_7)) 3 (some q_7))))))), (q_7, .inr (0, [.ref qa_8, .ref qb_8, .int 0]))] H := hP
          have hD : va_D A [(b, .inr (8, [.ref q_1, .int 0, .ref q_2, .ref q_3, .int 0, .ref q_4, .int 0, .ref q_5, .int 0, .ref q_6, .int 0])), (q_1, .inl (cA_1, 4, .inr (.inr (.inr (.inr (fun _ => none)))))), (q_2, .inl (cA_2, 10, .inr (.inr (.inr (.inr (fun _ => none)))))), (q_3, .inl (cA_3, 100, .inr (.inr (.inr (.inr (fun _ => none)))))), (q_4, .inl (cA_4, 4, .inr (.inr (.inr (.inr (fun _ => none)))))), (q_5, .inl (cA_3, 3, .inr (.inr (.inr (.inr (fun _ => none)))))), (q_6, .inl (cA_6, 4, .inr (.inr (.inr (.inr (va_up (va_up (va_up (va_up (fun _ => none) 0 (some q_7)) 1 (some q_7)) 2 (some q_7)) 3 (some q_7))))))), (q_7, .inr (0, [.ref qa_8, .ref qb_8, .int 0]))] := hD
          refine lv_iinc (v := 4) (lv' := [(2, .int 4), (1, .ref q_7), (0, .ref b)]) hx hb dX8_init_101 hl (k := 0) rfl (by decide) (by decide) rfl (fun ls hl => ?_)
          refine lv_goto (tgt := 89) hx hb dX8_init_104 (by decide) ?_
          refine lv_iload_n hx hb dX8_init_89 rfl (lv_at hl 0 rfl) ?_
          refine lv_iconst (v := 4) hx hb dX8_init_90 (by decide) ?_
          refine lv_icmp_ge (tgt := 107) hx hb dX8_init_91 (by decide) (fun c_17 => ?_) (fun c_17 => ?_)
          · skip
            have hP9 := hP.sub (ws' := [(b, .inr (8, [.ref q_1, .int 0, .ref q_2, .ref q_3, .int 0, .ref q_4, .int 0, .ref q_5, .int 0, .ref q_6, .int 0])), (q_1, .inl (cA_1, 4, .inr (.inr (.inr (.inr (fun _ => none)))))), (q_2, .inl (cA_2, 10, .inr (.inr (.inr (.inr (fun _ => none)))))), (q_3, .inl (cA_3, 100, .inr (.inr (.inr (.inr (fun _ => none)))))), (q_4, .inl (cA_4, 4, .inr (.inr (.inr (.inr (fun _ => none)))))), (q_5, .inl (cA_3, 3, .inr (.inr (.inr (.inr (fun _ => none)))))), (q_6, .inl (cA_6, 4, .inr (.inr (.inr (.inr (va_up (va_up (va_up (va_up (fun _ => none) 0 (some q_7)) 1 (some q_7)) 2 (some q_7)) 3 (some q_7))))))), (q_7, .inr (0, [.ref qa_8, .ref qb_8, .int 0]))]) [0, 1, 2, 3, 4, 5, 6, 7] rfl
            have hD9 := hD.sub (ws' := [(b, .inr (8, [.ref q_1, .int 0, .ref q_2, .ref q_3, .int 0, .ref q_4, .int 0, .ref q_5, .int 0, .ref q_6, .int 0])), (q_1, .inl (cA_1, 4, .inr (.inr (.inr (.inr (fun _ => none)))))), (q_2, .inl (cA_2, 10, .inr (.inr (.inr (.inr (fun _ => none)))))), (q_3, .inl (cA_3, 100, .inr (.inr (.inr (.inr (fun _ => none)))))), (q_4, .inl (cA_4, 4, .inr (.inr (.inr (.inr (fun _ => none)))))), (q_5, .inl (cA_3, 3, .inr (.inr (.inr (.inr (fun _ => none)))))), (q_6, .inl (cA_6, 4, .inr (.inr (.inr (.inr (va_up (va_up (va_up (va_up (fun _ => none) 0 (some q_7)) 1 (some q_7)) 2 (some q_7)) 3 (some q_7))))))), (q_7, .inr (0, [.ref qa_8, .ref qb_8, .int 0]))]) [0, 1, 2, 3, 4, 5, 6, 7] (by decide) rfl
            have hK9 := hK.sub (tys' := [(cA_1, .object RX7), (cA_2, .object RX9), (cA_3, .object RX4), (cA_4, .object RX2), (cA_6, .object RX0)]) [0, 1, 2, 3, 4] rfl
            refine W.widen (k := 9) (n := 152) (Nat.le_of_ble_eq_true rfl) (Nat.le_of_ble_eq_true rfl) ?_
            exact W.vret hx hb hr (fun t ht0 hW => ⟨⟨(), rfl, trivial, q_1, q_2, q_3, q_4, q_5, q_6, q_7, qa_8, qb_8, (va_up (va_up (va_up (va_up (fun _ => none) 0 (some q_7)) 1 (some q_7)) 2 (some q_7)) 3 (some q_7)), cA_1, cA_2, cA_3, cA_4, cA_6, (by intro k hk; rcases (show k = 0 ∨ k = 1 ∨ k = 2 ∨ k = 3 by omega) with rfl | rfl | rfl | rfl <;> rfl), zE_of hP9 hK9 hD9 ht0 hW⟩, hS.F ht0⟩) hS.2.2 dX8_init_107
          · skip
            exact absurd c_17 (by decide)
