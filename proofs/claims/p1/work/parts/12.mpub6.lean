abbrev cX12_type : ByteArray := prog_14_method_94_code
def yX12_type : MethodName := ⟨RX12, "type", "(J)I"⟩
theorem dX12_type_0 : decode cX12_type 0 = .ok (.aload_n 0, 1) := by decide +kernel
theorem dX12_type_1 : decode cX12_type 1 = .ok (.iconst 0, 1) := by decide +kernel
theorem dX12_type_2 : decode cX12_type 2 = .ok (.putfield 52, 3) := by decide +kernel
theorem dX12_type_5 : decode cX12_type 5 = .ok (.iconst 0, 1) := by decide +kernel
theorem dX12_type_6 : decode cX12_type 6 = .ok (.istore_n 3, 1) := by decide +kernel
theorem dX12_type_7 : decode cX12_type 7 = .ok (.bipush 56, 2) := by decide +kernel
theorem dX12_type_9 : decode cX12_type 9 = .ok (.istore 4, 2) := by decide +kernel
theorem dX12_type_11 : decode cX12_type 11 = .ok (.iload 4, 2) := by decide +kernel
theorem dX12_type_13 : decode cX12_type 13 = .ok (.ifCond .lt 30, 3) := by decide +kernel
theorem dX12_type_35 : decode cX12_type 35 = .ok (.iadd, 1) := by decide +kernel
theorem dX12_type_36 : decode cX12_type 36 = .ok (.istore_n 3, 1) := by decide +kernel
theorem dX12_type_37 : decode cX12_type 37 = .ok (.iinc 4 (-8), 3) := by decide +kernel
theorem dX12_type_40 : decode cX12_type 40 = .ok (.goto (-29), 3) := by decide +kernel
theorem dX12_type_43 : decode cX12_type 43 = .ok (.aload_n 0, 1) := by decide +kernel
theorem dX12_type_44 : decode cX12_type 44 = .ok (.aload_n 0, 1) := by decide +kernel
theorem dX12_type_45 : decode cX12_type 45 = .ok (.getfield 328, 3) := by decide +kernel
theorem dX12_type_48 : decode cX12_type 48 = .ok (.iload_n 3, 1) := by decide +kernel
theorem dX12_type_49 : decode cX12_type 49 = .ok (.iadd, 1) := by decide +kernel
theorem dX12_type_50 : decode cX12_type 50 = .ok (.sipush 200, 3) := by decide +kernel
theorem dX12_type_53 : decode cX12_type 53 = .ok (.if_icmp .gt 7, 3) := by decide +kernel
theorem dX12_type_56 : decode cX12_type 56 = .ok (.iconst 1, 1) := by decide +kernel
theorem dX12_type_57 : decode cX12_type 57 = .ok (.goto 4, 3) := by decide +kernel
theorem dX12_type_61 : decode cX12_type 61 = .ok (.iconst 1, 1) := by decide +kernel
theorem dX12_type_62 : decode cX12_type 62 = .ok (.invokevirtual 56, 3) := by decide +kernel
theorem dX12_type_65 : decode cX12_type 65 = .ok (.ifCond .eq 5, 3) := by decide +kernel
theorem dX12_type_70 : decode cX12_type 70 = .ok (.bipush 56, 2) := by decide +kernel
theorem dX12_type_72 : decode cX12_type 72 = .ok (.istore 4, 2) := by decide +kernel
theorem dX12_type_74 : decode cX12_type 74 = .ok (.iload 4, 2) := by decide +kernel
theorem dX12_type_76 : decode cX12_type 76 = .ok (.ifCond .lt 49, 3) := by decide +kernel
theorem dX12_type_119 : decode cX12_type 119 = .ok (.iinc 4 (-8), 3) := by decide +kernel
theorem dX12_type_122 : decode cX12_type 122 = .ok (.goto (-48), 3) := by decide +kernel
theorem dX12_type_125 : decode cX12_type 125 = .ok (.aload_n 0, 1) := by decide +kernel
theorem dX12_type_126 : decode cX12_type 126 = .ok (.getfield 328, 3) := by decide +kernel
theorem dX12_type_129 : decode cX12_type 129 = .ok (.ireturn, 1) := by decide +kernel
theorem dX12_type_79 : decode cX12_type 79 = .ok (.lload_n 1, 1) := by decide +kernel
theorem dX12_type_80 : decode cX12_type 80 = .ok (.iload 4, 2) := by decide +kernel
theorem dX12_type_82 : decode cX12_type 82 = .ok (.lushr, 1) := by decide +kernel
theorem zw_142 : Cond.constantLong RX12 326 255 ∈ zT := zT_of 1942 (by decide +kernel) (by decide +kernel)
theorem dX12_type_83 : decode cX12_type 83 = .ok (.ldc2_w 326, 3) := by decide +kernel
theorem dX12_type_86 : decode cX12_type 86 = .ok (.land, 1) := by decide +kernel
theorem dX12_type_87 : decode cX12_type 87 = .ok (.l2i, 1) := by decide +kernel
theorem dX12_type_88 : decode cX12_type 88 = .ok (.istore 5, 2) := by decide +kernel
theorem dX12_type_90 : decode cX12_type 90 = .ok (.iload 5, 2) := by decide +kernel
theorem dX12_type_92 : decode cX12_type 92 = .ok (.ifCond .ne 6, 3) := by decide +kernel
theorem dX12_type_98 : decode cX12_type 98 = .ok (.aload_n 0, 1) := by decide +kernel
theorem zw_143 : Cond.fieldLink RX12 25 RX12 "text" "[I" ∈ zT := zT_of 1494 (by decide +kernel) (by decide +kernel)
theorem dX12_type_99 : decode cX12_type 99 = .ok (.getfield 25, 3) := by decide +kernel
theorem dX12_type_102 : decode cX12_type 102 = .ok (.aload_n 0, 1) := by decide +kernel
theorem dX12_type_103 : decode cX12_type 103 = .ok (.getfield 328, 3) := by decide +kernel
theorem dX12_type_106 : decode cX12_type 106 = .ok (.iload 5, 2) := by decide +kernel
theorem dX12_type_108 : decode cX12_type 108 = .ok (.iastore, 1) := by decide +kernel
theorem dX12_type_109 : decode cX12_type 109 = .ok (.aload_n 0, 1) := by decide +kernel
theorem dX12_type_110 : decode cX12_type 110 = .ok (.dup, 1) := by decide +kernel
theorem dX12_type_111 : decode cX12_type 111 = .ok (.getfield 328, 3) := by decide +kernel
theorem dX12_type_114 : decode cX12_type 114 = .ok (.iconst 1, 1) := by decide +kernel
theorem dX12_type_115 : decode cX12_type 115 = .ok (.iadd, 1) := by decide +kernel
theorem dX12_type_116 : decode cX12_type 116 = .ok (.putfield 328, 3) := by decide +kernel
theorem dX12_type_95 : decode cX12_type 95 = .ok (.goto 24, 3) := by decide +kernel
theorem dX12_type_16 : decode cX12_type 16 = .ok (.iload_n 3, 1) := by decide +kernel
theorem dX12_type_17 : decode cX12_type 17 = .ok (.lload_n 1, 1) := by decide +kernel
theorem dX12_type_18 : decode cX12_type 18 = .ok (.iload 4, 2) := by decide +kernel
theorem dX12_type_20 : decode cX12_type 20 = .ok (.lushr, 1) := by decide +kernel
theorem dX12_type_21 : decode cX12_type 21 = .ok (.ldc2_w 326, 3) := by decide +kernel
theorem dX12_type_24 : decode cX12_type 24 = .ok (.land, 1) := by decide +kernel
theorem dX12_type_25 : decode cX12_type 25 = .ok (.lconst 0, 1) := by decide +kernel
theorem dX12_type_26 : decode cX12_type 26 = .ok (.lcmp, 1) := by decide +kernel
theorem dX12_type_27 : decode cX12_type 27 = .ok (.ifCond .ne 7, 3) := by decide +kernel
theorem dX12_type_34 : decode cX12_type 34 = .ok (.iconst 1, 1) := by decide +kernel
theorem dX12_type_30 : decode cX12_type 30 = .ok (.iconst 0, 1) := by decide +kernel
theorem dX12_type_31 : decode cX12_type 31 = .ok (.goto 4, 3) := by decide +kernel
abbrev cX12_init : ByteArray := prog_14_method_1_code
def yX12_init : MethodName := ⟨RX12, "<init>", "()V"⟩
theorem dX12_init_0 : decode cX12_init 0 = .ok (.aload_n 0, 1) := by decide +kernel
theorem zw_144 : Cond.methodLink RX12 3 objectInit ∈ zT := zT_of 1485 (by decide +kernel) (by decide +kernel)
theorem zw_145 : Cond.instanceMethod objectInit ∈ zT := zT_of 30 (by decide +kernel) (by decide +kernel)
theorem zw_146 : Cond.code objectInit ⟨#[0xb1]⟩ 1 none ∈ zT := zT_of 31 (by decide +kernel) (by decide +kernel)
theorem dX12_init_1 : decode cX12_init 1 = .ok (.invokespecial 3, 3) := by decide +kernel
theorem dX12_init_4 : decode cX12_init 4 = .ok (.aload_n 0, 1) := by decide +kernel
theorem dX12_init_5 : decode cX12_init 5 = .ok (.sipush 6792, 3) := by decide +kernel
theorem dX12_init_8 : decode cX12_init 8 = .ok (.newarray .int, 2) := by decide +kernel
theorem dX12_init_10 : decode cX12_init 10 = .ok (.putfield 9, 3) := by decide +kernel
theorem dX12_init_13 : decode cX12_init 13 = .ok (.aload_n 0, 1) := by decide +kernel
theorem dX12_init_14 : decode cX12_init 14 = .ok (.bipush 8, 2) := by decide +kernel
theorem dX12_init_16 : decode cX12_init 16 = .ok (.sipush 6792, 3) := by decide +kernel
theorem zw_147 : Cond.classLink RX12 13 "[[I" ∈ zT := zT_of 1486 (by decide +kernel) (by decide +kernel)
theorem dX12_init_19 : decode cX12_init 19 = .ok (.multianewarray 13 2, 4) := by decide +kernel
theorem dX12_init_23 : decode cX12_init 23 = .ok (.putfield 15, 3) := by decide +kernel
theorem dX12_init_26 : decode cX12_init 26 = .ok (.aload_n 0, 1) := by decide +kernel
theorem dX12_init_27 : decode cX12_init 27 = .ok (.iconst 2, 1) := by decide +kernel
theorem dX12_init_28 : decode cX12_init 28 = .ok (.sipush 6792, 3) := by decide +kernel
theorem dX12_init_31 : decode cX12_init 31 = .ok (.multianewarray 13 2, 4) := by decide +kernel
theorem dX12_init_35 : decode cX12_init 35 = .ok (.putfield 18, 3) := by decide +kernel
theorem dX12_init_38 : decode cX12_init 38 = .ok (.aload_n 0, 1) := by decide +kernel
theorem dX12_init_39 : decode cX12_init 39 = .ok (.iconst 2, 1) := by decide +kernel
theorem dX12_init_40 : decode cX12_init 40 = .ok (.newarray .boolean, 2) := by decide +kernel
theorem dX12_init_42 : decode cX12_init 42 = .ok (.putfield 21, 3) := by decide +kernel
theorem dX12_init_45 : decode cX12_init 45 = .ok (.aload_n 0, 1) := by decide +kernel
theorem dX12_init_46 : decode cX12_init 46 = .ok (.sipush 200, 3) := by decide +kernel
theorem dX12_init_49 : decode cX12_init 49 = .ok (.newarray .int, 2) := by decide +kernel
theorem dX12_init_51 : decode cX12_init 51 = .ok (.putfield 25, 3) := by decide +kernel
theorem dX12_init_54 : decode cX12_init 54 = .ok (.aload_n 0, 1) := by decide +kernel
theorem dX12_init_55 : decode cX12_init 55 = .ok (.bipush 41, 2) := by decide +kernel
theorem dX12_init_57 : decode cX12_init 57 = .ok (.newarray .int, 2) := by decide +kernel
theorem dX12_init_59 : decode cX12_init 59 = .ok (.putfield 28, 3) := by decide +kernel
theorem dX12_init_62 : decode cX12_init 62 = .ok (.aload_n 0, 1) := by decide +kernel
theorem dX12_init_63 : decode cX12_init 63 = .ok (.sipush 1312, 3) := by decide +kernel
theorem dX12_init_66 : decode cX12_init 66 = .ok (.newarray .int, 2) := by decide +kernel
theorem zw_148 : Cond.fieldLink RX12 31 RX12 "output" "[I" ∈ zT := zT_of 1499 (by decide +kernel) (by decide +kernel)
theorem dX12_init_68 : decode cX12_init 68 = .ok (.putfield 31, 3) := by decide +kernel
theorem dX12_init_71 : decode cX12_init 71 = .ok (.aload_n 0, 1) := by decide +kernel
theorem dX12_init_72 : decode cX12_init 72 = .ok (.iconst 4, 1) := by decide +kernel
theorem dX12_init_73 : decode cX12_init 73 = .ok (.iconst 1, 1) := by decide +kernel
theorem dX12_init_74 : decode cX12_init 74 = .ok (.multianewarray 13 2, 4) := by decide +kernel
theorem zw_149 : Cond.fieldLink RX12 34 RX12 "bound" "[[I" ∈ zT := zT_of 1501 (by decide +kernel) (by decide +kernel)
theorem dX12_init_78 : decode cX12_init 78 = .ok (.putfield 34, 3) := by decide +kernel
theorem dX12_init_81 : decode cX12_init 81 = .ok (.aload_n 0, 1) := by decide +kernel
theorem dX12_init_82 : decode cX12_init 82 = .ok (.sipush 1001, 3) := by decide +kernel
theorem dX12_init_85 : decode cX12_init 85 = .ok (.bipush 41, 2) := by decide +kernel
theorem dX12_init_87 : decode cX12_init 87 = .ok (.multianewarray 13 2, 4) := by decide +kernel
theorem zw_150 : Cond.fieldLink RX12 37 RX12 "found" "[[I" ∈ zT := zT_of 1506 (by decide +kernel) (by decide +kernel)
theorem dX12_init_91 : decode cX12_init 91 = .ok (.putfield 37, 3) := by decide +kernel
theorem dX12_init_94 : decode cX12_init 94 = .ok (.aload_n 0, 1) := by decide +kernel
theorem dX12_init_95 : decode cX12_init 95 = .ok (.sipush 1001, 3) := by decide +kernel
theorem dX12_init_98 : decode cX12_init 98 = .ok (.newarray .int, 2) := by decide +kernel
theorem zw_151 : Cond.fieldLink RX12 40 RX12 "parent" "[I" ∈ zT := zT_of 1507 (by decide +kernel) (by decide +kernel)
theorem dX12_init_100 : decode cX12_init 100 = .ok (.putfield 40, 3) := by decide +kernel
theorem dX12_init_103 : decode cX12_init 103 = .ok (.aload_n 0, 1) := by decide +kernel
theorem dX12_init_104 : decode cX12_init 104 = .ok (.sipush 1001, 3) := by decide +kernel
theorem dX12_init_107 : decode cX12_init 107 = .ok (.newarray .int, 2) := by decide +kernel
theorem zw_152 : Cond.fieldLink RX12 43 RX12 "byName" "[I" ∈ zT := zT_of 1508 (by decide +kernel) (by decide +kernel)
theorem dX12_init_109 : decode cX12_init 109 = .ok (.putfield 43, 3) := by decide +kernel
theorem dX12_init_112 : decode cX12_init 112 = .ok (.aload_n 0, 1) := by decide +kernel
theorem dX12_init_113 : decode cX12_init 113 = .ok (.sipush 1024, 3) := by decide +kernel
theorem dX12_init_116 : decode cX12_init 116 = .ok (.newarray .int, 2) := by decide +kernel
theorem zw_153 : Cond.fieldLink RX12 46 RX12 "heads" "[I" ∈ zT := zT_of 1509 (by decide +kernel) (by decide +kernel)
theorem dX12_init_118 : decode cX12_init 118 = .ok (.putfield 46, 3) := by decide +kernel
theorem dX12_init_121 : decode cX12_init 121 = .ok (.aload_n 0, 1) := by decide +kernel
theorem dX12_init_122 : decode cX12_init 122 = .ok (.sipush 1001, 3) := by decide +kernel
theorem dX12_init_125 : decode cX12_init 125 = .ok (.newarray .int, 2) := by decide +kernel
theorem zw_154 : Cond.fieldLink RX12 49 RX12 "nexts" "[I" ∈ zT := zT_of 1510 (by decide +kernel) (by decide +kernel)
theorem dX12_init_127 : decode cX12_init 127 = .ok (.putfield 49, 3) := by decide +kernel
theorem dX12_init_130 : decode cX12_init 130 = .ok (.return_, 1) := by decide +kernel
theorem za_ra {U : State} {cA : ClassId} {ty : FieldType} (h : va_RA U cA ty) : U.vm.findClass ("[" ++ ty.toString) = some cA := by
  cases ty with
  | object C => exact h.choose_spec.choose_spec.2.2.2
  | _ => exact h
theorem za_same {D : va_G} {cl : List vw_C} {tys : List (ClassId × FieldType)} {s : State} (hK : va_K D cl tys s) (i j : Nat) {c1 c2 : ClassId} {ty : FieldType} (h1 : tys[i]? = some (c1, ty)) (h2 : tys[j]? = some (c2, ty)) : c1 = c2 := by
  have e1 := za_ra (hK.2 i _ h1).2
  have e2 := za_ra (hK.2 j _ h2).2
  rw [e1] at e2
  exact Option.some.inj e2
/-- addresses as a function -/
def zAd (l : List Nat) : Nat → Nat := fun k => l.getD k 0

set_option maxHeartbeats 4000000 in
set_option maxRecDepth 100000 in
theorem k_X12_type (l : Launch) (sz : Nat) (D : va_G) (a : Nat → Nat) (cI : ClassId) (p0 : Int64) : Met l yX12_type (.code yX12_type cX12_type 6 (some .int) :: zT) ({ frames := 1, cells := 0, slots := 0, locals := 22 }) (va_Pc [.ref (a 0), .long p0] (zM D [((a 0), .inr (12, zMo a zI0)), ((a 6), .inl (cI, 200, .inl zI0))] [(cI, .int)] sz)) (va_Qi (fun (r : Int32) (u : Nat → Int32) => u 0 = 0 ∧ r = zN p0 8) (fun u t => zE D [(a 0, .inr (12, zMo a u))] [] (va_A [((a 0), .inr (12, zMo a zI0)), ((a 6), .inl (cI, 200, .inl zI0))] sz) t) (va_A [((a 0), .inr (12, zMo a zI0)), ((a 6), .inl (cI, 200, .inl zI0))] sz)) 0 0 (va_A [((a 0), .inr (12, zMo a zI0)), ((a 6), .inl (cI, 200, .inl zI0))] sz) := by
  refine Met.ofW (cc := cX12_type) (maxL := 6) (ret := (some .int)) (by decide) rfl ?_
  intro p e s m args below meth c s₁ B hml hv
  obtain ⟨rfl, hsz, hP, hK, hD0⟩ := hv
  have hx := B.exec
  have hb := B.bytes
  have hr := B.returns
  have hts := atoms_spec (ws := (.code yX12_type cX12_type 6 (some .int) :: zT)) B.pre
  have ht : ∀ w ∈ zT, w.before _ s = true := fun w h => hts w (List.mem_cons_of_mem _ h)
  have hown : s.vm.findClass RX12 = some m.cls := findClass_of_methodNamed B.named
  have hlocks := B.notSynchronized
  subst hsz
  have hD := hD0.self (sz := s.heap.size)
  generalize hAe : va_A [((a 0), .inr (12, zMo a zI0)), ((a 6), .inl (cI, 200, .inl zI0))] s.heap.size = A at hD ⊢
  have hA : ∀ q : Nat, s.heap.size ≤ q → A q := fun q h => by rw [← hAe]; exact Or.inr h
  have hS : va_S A s.heap s.heap [] := va_S.rf
  have hP : va_P D vwCl [((a 0), .inr (12, zMo a zI0)), ((a 6), .inl (cI, 200, .inl zI0))] s.heap := hP
  have hl := lv_entry ([.ref (a 0), .long p0]) (n := 6) (Nat.le_of_ble_eq_true rfl)
  rw [lg_entry_eq]
  generalize (lg_sl ([.ref (a 0), .long p0]) ++ List.replicate (6 - (lg_sl ([.ref (a 0), .long p0])).length) Slot.unset).toArray = ls at hl ⊢
  have hl : lv_has ls 6 [(0, .ref (a 0)), (1, .long p0)] := hl
  skip
  refine lv_aload_n hx hb dX12_type_0 rfl (lv_at hl 0 rfl) ?_
  refine lv_iconst (v := 0) hx hb dX12_type_1 (by decide) ?_
  refine va_put (D := D) (ci := 12) (v := .int 0) (ty := .int) (C := RX12) (T := TX12) (N := 25) hx hb ht zinX12 tyX12 tyX12_ok nmX12 hown hK hP hD hS 0 rfl rfl 0 (by decide) (ht _ zw_29) (fun _ h9 => h9) rfl (by decide +kernel) rfl rfl (Nat.le_of_ble_eq_true rfl) dX12_type_2 (fun H locs hP hD hS => ?_)
  have hP : va_P D vwCl [((a 0), .inr (12, zMo a (upd zI0 0 0))), ((a 6), .inl (cI, 200, .inl zI0))] H := hP
  have hD : va_D A [((a 0), .inr (12, zMo a (upd zI0 0 0))), ((a 6), .inl (cI, 200, .inl zI0))] := hD
  refine lv_iconst (v := 0) hx hb dX12_type_5 (by decide) ?_
  refine lv_istore_n (lv' := [(3, .int 0), (0, .ref (a 0)), (1, .long p0)]) hx hb dX12_type_6 rfl hl (by decide) rfl (fun ls hl => ?_)
  refine lv_bipush (v := 56) hx hb dX12_type_7 (by decide) ?_
  refine lv_istore (lv' := [(4, .int 56), (3, .int 0), (0, .ref (a 0)), (1, .long p0)]) hx hb dX12_type_9 hl (by decide) rfl (fun ls hl => ?_)
  refine lv_iload hx hb dX12_type_11 (lv_at hl 0 rfl) ?_
  refine lv_if_lt (tgt := 43) hx hb dX12_type_13 (by decide) (fun c_1 => ?_) (fun c_1 => ?_)
  · skip
    exact absurd c_1 (by decide)
  · skip
    have hj_0 : ∀ z : Int32, z = zC p0 56 → W p l e (headSpec (.code yX12_type cX12_type 6 (some .int) :: zT) ({ frames := 1, cells := 0, slots := 0, locals := 22 })).room s m (([.ref (a 0), .long p0] : List Value)).toArray below meth c H locs 0 0 (MQ below (va_Qi (fun (r : Int32) (u : Nat → Int32) => u 0 = 0 ∧ r = zN p0 8) (fun u t => zE D [(a 0, .inr (12, zMo a u))] [] A t) A) (([.ref (a 0), .long p0] : List Value)).toArray s 0 0 A) (F0 m 35 ls [.int z, .int (zN p0 0)]) := by
      intro z hz_0
      refine lv_iadd hx hb dX12_type_35 ?_
      refine lv_topi (fun x_2 e_2 => ?_)
      obtain rfl : x_2 = zN p0 1 := by rw [e_2, hz_0]; rfl
      refine lv_istore_n (lv' := [(3, .int (zN p0 1)), (4, .int 56), (0, .ref (a 0)), (1, .long p0)]) hx hb dX12_type_36 rfl hl (by decide) rfl (fun ls hl => ?_)
      refine lv_iinc (v := 48) (lv' := [(4, .int 48), (3, .int (zN p0 1)), (0, .ref (a 0)), (1, .long p0)]) hx hb dX12_type_37 hl (k := 1) rfl (by decide) (by decide) rfl (fun ls hl => ?_)
      refine lv_goto (tgt := 11) hx hb dX12_type_40 (by decide) ?_
      refine lv_iload hx hb dX12_type_11 (lv_at hl 0 rfl) ?_
      refine lv_if_lt (tgt := 43) hx hb dX12_type_13 (by decide) (fun c_4 => ?_) (fun c_4 => ?_)
      · skip
        exact absurd c_4 (by decide)
      · skip
        have hj_1 : ∀ z : Int32, z = zC p0 48 → W p l e (headSpec (.code yX12_type cX12_type 6 (some .int) :: zT) ({ frames := 1, cells := 0, slots := 0, locals := 22 })).room s m (([.ref (a 0), .long p0] : List Value)).toArray below meth c H locs 0 0 (MQ below (va_Qi (fun (r : Int32) (u : Nat → Int32) => u 0 = 0 ∧ r = zN p0 8) (fun u t => zE D [(a 0, .inr (12, zMo a u))] [] A t) A) (([.ref (a 0), .long p0] : List Value)).toArray s 0 0 A) (F0 m 35 ls [.int z, .int (zN p0 1)]) := by
          intro z hz_1
          refine lv_iadd hx hb dX12_type_35 ?_
          refine lv_topi (fun x_5 e_5 => ?_)
          obtain rfl : x_5 = zN p0 2 := by rw [e_5, hz_1]; rfl
          refine lv_istore_n (lv' := [(3, .int (zN p0 2)), (4, .int 48), (0, .ref (a 0)), (1, .long p0)]) hx hb dX12_type_36 rfl hl (by decide) rfl (fun ls hl => ?_)
          refine lv_iinc (v := 40) (lv' := [(4, .int 40), (3, .int (zN p0 2)), (0, .ref (a 0)), (1, .long p0)]) hx hb dX12_type_37 hl (k := 1) rfl (by decide) (by decide) rfl (fun ls hl => ?_)
          refine lv_goto (tgt := 11) hx hb dX12_type_40 (by decide) ?_
          refine lv_iload hx hb dX12_type_11 (lv_at hl 0 rfl) ?_
          refine lv_if_lt (tgt := 43) hx hb dX12_type_13 (by decide) (fun c_7 => ?_) (fun c_7 => ?_)
          · skip
            exact absurd c_7 (by decide)
          · skip
            have hj_2 : ∀ z : Int32, z = zC p0 40 → W p l e (headSpec (.code yX12_type cX12_type 6 (some .int) :: zT) ({ frames := 1, cells := 0, slots := 0, locals := 22 })).room s m (([.ref (a 0), .long p0] : List Value)).toArray below meth c H locs 0 0 (MQ below (va_Qi (fun (r : Int32) (u : Nat → Int32) => u 0 = 0 ∧ r = zN p0 8) (fun u t => zE D [(a 0, .inr (12, zMo a u))] [] A t) A) (([.ref (a 0), .long p0] : List Value)).toArray s 0 0 A) (F0 m 35 ls [.int z, .int (zN p0 2)]) := by
              intro z hz_2
              refine lv_iadd hx hb dX12_type_35 ?_
              refine lv_topi (fun x_8 e_8 => ?_)
              obtain rfl : x_8 = zN p0 3 := by rw [e_8, hz_2]; rfl
              refine lv_istore_n (lv' := [(3, .int (zN p0 3)), (4, .int 40), (0, .ref (a 0)), (1, .long p0)]) hx hb dX12_type_36 rfl hl (by decide) rfl (fun ls hl => ?_)
              refine lv_iinc (v := 32) (lv' := [(4, .int 32), (3, .int (zN p0 3)), (0, .ref (a 0)), (1, .long p0)]) hx hb dX12_type_37 hl (k := 1) rfl (by decide) (by decide) rfl (fun ls hl => ?_)
              refine lv_goto (tgt := 11) hx hb dX12_type_40 (by decide) ?_
              refine lv_iload hx hb dX12_type_11 (lv_at hl 0 rfl) ?_
              refine lv_if_lt (tgt := 43) hx hb dX12_type_13 (by decide) (fun c_10 => ?_) (fun c_10 => ?_)
              · skip
                exact absurd c_10 (by decide)
              · skip
                have hj_3 : ∀ z : Int32, z = zC p0 32 → W p l e (headSpec (.code yX12_type cX12_type 6 (some .int) :: zT) ({ frames := 1, cells := 0, slots := 0, locals := 22 })).room s m (([.ref (a 0), .long p0] : List Value)).toArray below meth c H locs 0 0 (MQ below (va_Qi (fun (r : Int32) (u : Nat → Int32) => u 0 = 0 ∧ r = zN p0 8) (fun u t => zE D [(a 0, .inr (12, zMo a u))] [] A t) A) (([.ref (a 0), .long p0] : List Value)).toArray s 0 0 A) (F0 m 35 ls [.int z, .int (zN p0 3)]) := by
                  intro z hz_3
                  refine lv_iadd hx hb dX12_type_35 ?_
                  refine lv_topi (fun x_11 e_11 => ?_)
                  obtain rfl : x_11 = zN p0 4 := by rw [e_11, hz_3]; rfl
                  refine lv_istore_n (lv' := [(3, .int (zN p0 4)), (4, .int 32), (0, .ref (a 0)), (1, .long p0)]) hx hb dX12_type_36 rfl hl (by decide) rfl (fun ls hl => ?_)
                  refine lv_iinc (v := 24) (lv' := [(4, .int 24), (3, .int (zN p0 4)), (0, .ref (a 0)), (1, .long p0)]) hx hb dX12_type_37 hl (k := 1) rfl (by decide) (by decide) rfl (fun ls hl => ?_)
                  refine lv_goto (tgt := 11) hx hb dX12_type_40 (by decide) ?_
                  refine lv_iload hx hb dX12_type_11 (lv_at hl 0 rfl) ?_
                  refine lv_if_lt (tgt := 43) hx hb dX12_type_13 (by decide) (fun c_13 => ?_) (fun c_13 => ?_)
                  · skip
                    exact absurd c_13 (by decide)
                  · skip
                    have hj_4 : ∀ z : Int32, z = zC p0 24 → W p l e (headSpec (.code yX12_type cX12_type 6 (some .int) :: zT) ({ frames := 1, cells := 0, slots := 0, locals := 22 })).room s m (([.ref (a 0), .long p0] : List Value)).toArray below meth c H locs 0 0 (MQ below (va_Qi (fun (r : Int32) (u : Nat → Int32) => u 0 = 0 ∧ r = zN p0 8) (fun u t => zE D [(a 0, .inr (12, zMo a u))] [] A t) A) (([.ref (a 0), .long p0] : List Value)).toArray s 0 0 A) (F0 m 35 ls [.int z, .int (zN p0 4)]) := by
                      intro z hz_4
                      refine lv_iadd hx hb dX12_type_35 ?_
                      refine lv_topi (fun x_14 e_14 => ?_)
                      obtain rfl : x_14 = zN p0 5 := by rw [e_14, hz_4]; rfl
                      refine lv_istore_n (lv' := [(3, .int (zN p0 5)), (4, .int 24), (0, .ref (a 0)), (1, .long p0)]) hx hb dX12_type_36 rfl hl (by decide) rfl (fun ls hl => ?_)
                      refine lv_iinc (v := 16) (lv' := [(4, .int 16), (3, .int (zN p0 5)), (0, .ref (a 0)), (1, .long p0)]) hx hb dX12_type_37 hl (k := 1) rfl (by decide) (by decide) rfl (fun ls hl => ?_)
                      refine lv_goto (tgt := 11) hx hb dX12_type_40 (by decide) ?_
                      refine lv_iload hx hb dX12_type_11 (lv_at hl 0 rfl) ?_
                      refine lv_if_lt (tgt := 43) hx hb dX12_type_13 (by decide) (fun c_16 => ?_) (fun c_16 => ?_)
                      · skip
                        exact absurd c_16 (by decide)
                      · skip
                        have hj_5 : ∀ z : Int32, z = zC p0 16 → W p l e (headSpec (.code yX12_type cX12_type 6 (some .int) :: zT) ({ frames := 1, cells := 0, slots := 0, locals := 22 })).room s m (([.ref (a 0), .long p0] : List Value)).toArray below meth c H locs 0 0 (MQ below (va_Qi (fun (r : Int32) (u : Nat → Int32) => u 0 = 0 ∧ r = zN p0 8) (fun u t => zE D [(a 0, .inr (12, zMo a u))] [] A t) A) (([.ref (a 0), .long p0] : List Value)).toArray s 0 0 A) (F0 m 35 ls [.int z, .int (zN p0 5)]) := by
                          intro z hz_5
                          refine lv_iadd hx hb dX12_type_35 ?_
                          refine lv_topi (fun x_17 e_17 => ?_)
                          obtain rfl : x_17 = zN p0 6 := by rw [e_17, hz_5]; rfl
                          refine lv_istore_n (lv' := [(3, .int (zN p0 6)), (4, .int 16), (0, .ref (a 0)), (1, .long p0)]) hx hb dX12_type_36 rfl hl (by decide) rfl (fun ls hl => ?_)
                          refine lv_iinc (v := 8) (lv' := [(4, .int 8), (3, .int (zN p0 6)), (0, .ref (a 0)), (1, .long p0)]) hx hb dX12_type_37 hl (k := 1) rfl (by decide) (by decide) rfl (fun ls hl => ?_)
                          refine lv_goto (tgt := 11) hx hb dX12_type_40 (by decide) ?_
                          refine lv_iload hx hb dX12_type_11 (lv_at hl 0 rfl) ?_
                          refine lv_if_lt (tgt := 43) hx hb dX12_type_13 (by decide) (fun c_19 => ?_) (fun c_19 => ?_)
                          · skip
                            exact absurd c_19 (by decide)
                          · skip
                            have hj_6 : ∀ z : Int32, z = zC p0 8 → W p l e (headSpec (.code yX12_type cX12_type 6 (some .int) :: zT) ({ frames := 1, cells := 0, slots := 0, locals := 22 })).room s m (([.ref (a 0), .long p0] : List Value)).toArray below meth c H locs 0 0 (MQ below (va_Qi (fun (r : Int32) (u : Nat → Int32) => u 0 = 0 ∧ r = zN p0 8) (fun u t => zE D [(a 0, .inr (12, zMo a u))] [] A t) A) (([.ref (a 0), .long p0] : List Value)).toArray s 0 0 A) (F0 m 35 ls [.int z, .int (zN p0 6)]) := by
                              intro z hz_6
                              refine lv_iadd hx hb dX12_type_35 ?_
                              refine lv_topi (fun x_20 e_20 => ?_)
                              obtain rfl : x_20 = zN p0 7 := by rw [e_20, hz_6]; rfl
                              refine lv_istore_n (lv' := [(3, .int (zN p0 7)), (4, .int 8), (0, .ref (a 0)), (1, .long p0)]) hx hb dX12_type_36 rfl hl (by decide) rfl (fun ls hl => ?_)
                              refine lv_iinc (v := 0) (lv' := [(4, .int 0), (3, .int (zN p0 7)), (0, .ref (a 0)), (1, .long p0)]) hx hb dX12_type_37 hl (k := 1) rfl (by decide) (by decide) rfl (fun ls hl => ?_)
                              refine lv_goto (tgt := 11) hx hb dX12_type_40 (by decide) ?_
                              refine lv_iload hx hb dX12_type_11 (lv_at hl 0 rfl) ?_
                              refine lv_if_lt (tgt := 43) hx hb dX12_type_13 (by decide) (fun c_22 => ?_) (fun c_22 => ?_)
                              · skip
                                exact absurd c_22 (by decide)
                              · skip
                                have hj_7 : ∀ z : Int32, z = zC p0 0 → W p l e (headSpec (.code yX12_type cX12_type 6 (some .int) :: zT) ({ frames := 1, cells := 0, slots := 0, locals := 22 })).room s m (([.ref (a 0), .long p0] : List Value)).toArray below meth c H locs 0 0 (MQ below (va_Qi (fun (r : Int32) (u : Nat → Int32) => u 0 = 0 ∧ r = zN p0 8) (fun u t => zE D [(a 0, .inr (12, zMo a u))] [] A t) A) (([.ref (a 0), .long p0] : List Value)).toArray s 0 0 A) (F0 m 35 ls [.int z, .int (zN p0 7)]) := by
                                  intro z hz_7
                                  refine lv_iadd hx hb dX12_type_35 ?_
                                  refine lv_topi (fun x_23 e_23 => ?_)
                                  obtain rfl : x_23 = zN p0 8 := by rw [e_23, hz_7]; rfl
                                  have hq8 := zN_le p0 8 (by decide)
                                  refine lv_istore_n (lv' := [(3, .int (zN p0 8)), (4, .int 0), (0, .ref (a 0)), (1, .long p0)]) hx hb dX12_type_36 rfl hl (by decide) rfl (fun ls hl => ?_)
                                  refine lv_iinc (v := (-8)) (lv' := [(4, .int (-8)), (3, .int (zN p0 8)), (0, .ref (a 0)), (1, .long p0)]) hx hb dX12_type_37 hl (k := 1) rfl (by decide) (by decide) rfl (fun ls hl => ?_)
                                  refine lv_goto (tgt := 11) hx hb dX12_type_40 (by decide) ?_
                                  refine lv_iload hx hb dX12_type_11 (lv_at hl 0 rfl) ?_
                                  refine lv_if_lt (tgt := 43) hx hb dX12_type_13 (by decide) (fun c_25 => ?_) (fun c_25 => ?_)
                                  · skip
                                    refine lv_aload_n hx hb dX12_type_43 rfl (lv_at hl 2 rfl) ?_
                                    refine lv_aload_n hx hb dX12_type_44 rfl (lv_at hl 2 rfl) ?_
                                    refine va_get (D := D) (ci := 12) (v := .int 0) (C := RX12) (T := TX12) (N := 25) hx hb ht zinX12 hown hK hP 0 rfl rfl 7 (by decide) (ht _ zw_110) (fun _ h9 => h9) rfl dX12_type_45 ?_
                                    refine lv_iload_n hx hb dX12_type_48 rfl (lv_at hl 1 rfl) ?_
                                    refine lv_iadd hx hb dX12_type_49 ?_
                                    refine lv_topi (fun x_26 e_26 => ?_)
                                    refine lv_sipush (v := 200) hx hb dX12_type_50 (by decide) ?_
                                    refine lv_icmp_gt (tgt := 60) hx hb dX12_type_53 (by decide) (fun c_27 => ?_) (fun c_27 => ?_)
                                    · skip
                                      simp only [fa_lt, fa_le, fa_eq, Int32.reduceToInt] at c_27
                                      rw [e_26, Int32.zero_add] at c_27
                                      exfalso; omega
                                    · skip
                                      simp only [fa_lt, fa_le, fa_eq, Int32.reduceToInt] at c_27
                                      refine lv_iconst (v := 1) hx hb dX12_type_56 (by decide) ?_
                                      refine lv_goto (tgt := 61) hx hb dX12_type_57 (by decide) ?_
                                      refine lv_iconst (v := 1) hx hb dX12_type_61 (by decide) ?_
                                      have hPc := hP.sub (ws' := [((a 0), .inr (12, zMo a (upd zI0 0 0)))]) [0] rfl
                                      have hDc := hD.sub (ws' := [((a 0), .inr (12, zMo a (upd zI0 0 0)))]) [0] (by decide) rfl
                                      have hKc := hK.sub (tys' := []) [] rfl
                                      have hFc := va_free (wc := [((a 0), .inr (12, zMo a (upd zI0 0 0)))]) hD hS hA [0] rfl
                                      refine va_calli (va_runV (As := [.int 1, .int 1]) (rest := []) ⟨hx, hb, hml, hown, ht⟩ (k_X12_no l _ D a (upd zI0 0 0) 1 1 (by decide)) (cwV 2 ht (zG_V zw_30 zw_31 zw_32 zw_2 zw_33) rfl rfl rfl (by decide +kernel) ⟨Nat.le_of_ble_eq_true rfl, Nat.le_of_ble_eq_true rfl⟩) (zM_V (va_recv hK hP (ci := 12) (q0 := 0) rfl rfl) hPc hKc hDc) rfl rfl hl.1 rfl (lv_room (Nat.le_of_ble_eq_true rfl)) dX12_type_62 ⟨Nat.le_of_ble_eq_true rfl, Nat.le_of_ble_eq_true rfl⟩) hS (fun q _ h => hFc q h) hFc (fun r_28 u_28 t H1 locs ht0 hvm hw_28 hB hz1 hk1 hS => ?_)
                                      obtain ⟨rfl, rfl⟩ := hw_28.2 (by decide)
                                      obtain ⟨hP1, hK1, hD1⟩ := hB
                                      rw [ht0] at hP1
                                      have hK1 := va_K.moved hvm.symm hK1
                                      obtain ⟨hP, hD⟩ := va_join (wr := [((a 6), .inl (cI, 200, .inl zI0))]) (w1 := [((a 0), .inr (12, zMo a (upd zI0 0 0)))]) hP hD [0] [1] rfl rfl (by decide) (by decide) hk1 hFc hP1 hD1
                                      generalize H1 = H at hP hS ⊢
                                      have hP : va_P D vwCl [((a 6), .inl (cI, 200, .inl zI0)), ((a 0), .inr (12, zMo a (upd zI0 0 0)))] H := hP
                                      have hD : va_D A [((a 6), .inl (cI, 200, .inl zI0)), ((a 0), .inr (12, zMo a (upd zI0 0 0)))] := hD
                                      refine lv_if_eq (tgt := 70) hx hb dX12_type_65 (by decide) (fun c_29 => ?_) (fun c_29 => ?_)
                                      · skip
                                        refine lv_bipush (v := 56) hx hb dX12_type_70 (by decide) ?_
                                        refine lv_istore (lv' := [(4, .int 56), (3, .int (zN p0 8)), (0, .ref (a 0)), (1, .long p0)]) hx hb dX12_type_72 hl (by decide) rfl (fun ls hl => ?_)
                                        refine lv_iload hx hb dX12_type_74 (lv_at hl 0 rfl) ?_
                                        refine lv_if_lt (tgt := 125) hx hb dX12_type_76 (by decide) (fun c_30 => ?_) (fun c_30 => ?_)
                                        · skip
                                          exact absurd c_30 (by decide)
                                        · skip
                                          have hP : va_P D vwCl [((a 6), .inl (cI, 200, .inl zI0)), ((a 0), .inr (12, zMo a (upd (upd zI0 0 0) 7 (zN p0 0))))] H := hP
                                          have hD : va_D A [((a 6), .inl (cI, 200, .inl zI0)), ((a 0), .inr (12, zMo a (upd (upd zI0 0 0) 7 (zN p0 0))))] := hD
                                          have hk_0 : ∀ (t : Int32) (g : Nat → Int32) (H : Heap) (locs : List Loc) (ls : Array Slot), t = zN p0 1 → va_P D vwCl [((a 6), .inl (cI, 200, .inl g)), ((a 0), .inr (12, zMo a (upd (upd zI0 0 0) 7 t)))] H → va_D A [((a 6), .inl (cI, 200, .inl g)), ((a 0), .inr (12, zMo a (upd (upd zI0 0 0) 7 t)))] → va_S A s.heap H locs → lv_has ls 6 [(4, .int 56), (3, .int (zN p0 8)), (0, .ref (a 0)), (1, .long p0)] → W p l e (headSpec (.code yX12_type cX12_type 6 (some .int) :: zT) ({ frames := 1, cells := 0, slots := 0, locals := 22 })).room s m (([.ref (a 0), .long p0] : List Value)).toArray below meth c H locs 0 0 (MQ below (va_Qi (fun (r : Int32) (u : Nat → Int32) => u 0 = 0 ∧ r = zN p0 8) (fun u t => zE D [(a 0, .inr (12, zMo a u))] [] A t) A) (([.ref (a 0), .long p0] : List Value)).toArray s 0 0 A) (F0 m 119 ls []) := by
                                            intro t g_0 H locs ls et hP hD hS hl
                                            subst et
                                            refine lv_iinc (v := 48) (lv' := [(4, .int 48), (3, .int (zN p0 8)), (0, .ref (a 0)), (1, .long p0)]) hx hb dX12_type_119 hl (k := 0) rfl (by decide) (by decide) rfl (fun ls hl => ?_)
                                            refine lv_goto (tgt := 74) hx hb dX12_type_122 (by decide) ?_
                                            refine lv_iload hx hb dX12_type_74 (lv_at hl 0 rfl) ?_
                                            refine lv_if_lt (tgt := 125) hx hb dX12_type_76 (by decide) (fun c_32 => ?_) (fun c_32 => ?_)
                                            · skip
                                              exact absurd c_32 (by decide)
                                            · skip
                                              have hP : va_P D vwCl [((a 6), .inl (cI, 200, .inl g_0)), ((a 0), .inr (12, zMo a (upd (upd zI0 0 0) 7 (zN p0 1))))] H := hP
                                              have hD : va_D A [((a 6), .inl (cI, 200, .inl g_0)), ((a 0), .inr (12, zMo a (upd (upd zI0 0 0) 7 (zN p0 1))))] := hD
                                              have hk_1 : ∀ (t : Int32) (g : Nat → Int32) (H : Heap) (locs : List Loc) (ls : Array Slot), t = zN p0 2 → va_P D vwCl [((a 6), .inl (cI, 200, .inl g)), ((a 0), .inr (12, zMo a (upd (upd zI0 0 0) 7 t)))] H → va_D A [((a 6), .inl (cI, 200, .inl g)), ((a 0), .inr (12, zMo a (upd (upd zI0 0 0) 7 t)))] → va_S A s.heap H locs → lv_has ls 6 [(4, .int 48), (3, .int (zN p0 8)), (0, .ref (a 0)), (1, .long p0)] → W p l e (headSpec (.code yX12_type cX12_type 6 (some .int) :: zT) ({ frames := 1, cells := 0, slots := 0, locals := 22 })).room s m (([.ref (a 0), .long p0] : List Value)).toArray below meth c H locs 0 0 (MQ below (va_Qi (fun (r : Int32) (u : Nat → Int32) => u 0 = 0 ∧ r = zN p0 8) (fun u t => zE D [(a 0, .inr (12, zMo a u))] [] A t) A) (([.ref (a 0), .long p0] : List Value)).toArray s 0 0 A) (F0 m 119 ls []) := by
                                                intro t g_1 H locs ls et hP hD hS hl
                                                subst et
                                                refine lv_iinc (v := 40) (lv' := [(4, .int 40), (3, .int (zN p0 8)), (0, .ref (a 0)), (1, .long p0)]) hx hb dX12_type_119 hl (k := 0) rfl (by decide) (by decide) rfl (fun ls hl => ?_)
                                                refine lv_goto (tgt := 74) hx hb dX12_type_122 (by decide) ?_
                                                refine lv_iload hx hb dX12_type_74 (lv_at hl 0 rfl) ?_
                                                refine lv_if_lt (tgt := 125) hx hb dX12_type_76 (by decide) (fun c_34 => ?_) (fun c_34 => ?_)
                                                · skip
                                                  exact absurd c_34 (by decide)
                                                · skip
                                                  have hP : va_P D vwCl [((a 6), .inl (cI, 200, .inl g_1)), ((a 0), .inr (12, zMo a (upd (upd zI0 0 0) 7 (zN p0 2))))] H := hP
                                                  have hD : va_D A [((a 6), .inl (cI, 200, .inl g_1)), ((a 0), .inr (12, zMo a (upd (upd zI0 0 0) 7 (zN p0 2))))] := hD
                                                  have hk_2 : ∀ (t : Int32) (g : Nat → Int32) (H : Heap) (locs : List Loc) (ls : Array Slot), t = zN p0 3 → va_P D vwCl [((a 6), .inl (cI, 200, .inl g)), ((a 0), .inr (12, zMo a (upd (upd zI0 0 0) 7 t)))] H → va_D A [((a 6), .inl (cI, 200, .inl g)), ((a 0), .inr (12, zMo a (upd (upd zI0 0 0) 7 t)))] → va_S A s.heap H locs → lv_has ls 6 [(4, .int 40), (3, .int (zN p0 8)), (0, .ref (a 0)), (1, .long p0)] → W p l e (headSpec (.code yX12_type cX12_type 6 (some .int) :: zT) ({ frames := 1, cells := 0, slots := 0, locals := 22 })).room s m (([.ref (a 0), .long p0] : List Value)).toArray below meth c H locs 0 0 (MQ below (va_Qi (fun (r : Int32) (u : Nat → Int32) => u 0 = 0 ∧ r = zN p0 8) (fun u t => zE D [(a 0, .inr (12, zMo a u))] [] A t) A) (([.ref (a 0), .long p0] : List Value)).toArray s 0 0 A) (F0 m 119 ls []) := by
                                                    intro t g_2 H locs ls et hP hD hS hl
                                                    subst et
                                                    refine lv_iinc (v := 32) (lv' := [(4, .int 32), (3, .int (zN p0 8)), (0, .ref (a 0)), (1, .long p0)]) hx hb dX12_type_119 hl (k := 0) rfl (by decide) (by decide) rfl (fun ls hl => ?_)
                                                    refine lv_goto (tgt := 74) hx hb dX12_type_122 (by decide) ?_
                                                    refine lv_iload hx hb dX12_type_74 (lv_at hl 0 rfl) ?_
                                                    refine lv_if_lt (tgt := 125) hx hb dX12_type_76 (by decide) (fun c_36 => ?_) (fun c_36 => ?_)
                                                    · skip
                                                      exact absurd c_36 (by decide)
                                                    · skip
                                                      have hP : va_P D vwCl [((a 6), .inl (cI, 200, .inl g_2)), ((a 0), .inr (12, zMo a (upd (upd zI0 0 0) 7 (zN p0 3))))] H := hP
                                                      have hD : va_D A [((a 6), .inl (cI, 200, .inl g_2)), ((a 0), .inr (12, zMo a (upd (upd zI0 0 0) 7 (zN p0 3))))] := hD
                                                      have hk_3 : ∀ (t : Int32) (g : Nat → Int32) (H : Heap) (locs : List Loc) (ls : Array Slot), t = zN p0 4 → va_P D vwCl [((a 6), .inl (cI, 200, .inl g)), ((a 0), .inr (12, zMo a (upd (upd zI0 0 0) 7 t)))] H → va_D A [((a 6), .inl (cI, 200, .inl g)), ((a 0), .inr (12, zMo a (upd (upd zI0 0 0) 7 t)))] → va_S A s.heap H locs → lv_has ls 6 [(4, .int 32), (3, .int (zN p0 8)), (0, .ref (a 0)), (1, .long p0)] → W p l e (headSpec (.code yX12_type cX12_type 6 (some .int) :: zT) ({ frames := 1, cells := 0, slots := 0, locals := 22 })).room s m (([.ref (a 0), .long p0] : List Value)).toArray below meth c H locs 0 0 (MQ below (va_Qi (fun (r : Int32) (u : Nat → Int32) => u 0 = 0 ∧ r = zN p0 8) (fun u t => zE D [(a 0, .inr (12, zMo a u))] [] A t) A) (([.ref (a 0), .long p0] : List Value)).toArray s 0 0 A) (F0 m 119 ls []) := by
                                                        intro t g_3 H locs ls et hP hD hS hl
                                                        subst et
                                                        refine lv_iinc (v := 24) (lv' := [(4, .int 24), (3, .int (zN p0 8)), (0, .ref (a 0)), (1, .long p0)]) hx hb dX12_type_119 hl (k := 0) rfl (by decide) (by decide) rfl (fun ls hl => ?_)
                                                        refine lv_goto (tgt := 74) hx hb dX12_type_122 (by decide) ?_
                                                        refine lv_iload hx hb dX12_type_74 (lv_at hl 0 rfl) ?_
                                                        refine lv_if_lt (tgt := 125) hx hb dX12_type_76 (by decide) (fun c_38 => ?_) (fun c_38 => ?_)
                                                        · skip
                                                          exact absurd c_38 (by decide)
                                                        · skip
                                                          have hP : va_P D vwCl [((a 6), .inl (cI, 200, .inl g_3)), ((a 0), .inr (12, zMo a (upd (upd zI0 0 0) 7 (zN p0 4))))] H := hP
                                                          have hD : va_D A [((a 6), .inl (cI, 200, .inl g_3)), ((a 0), .inr (12, zMo a (upd (upd zI0 0 0) 7 (zN p0 4))))] := hD
                                                          have hk_4 : ∀ (t : Int32) (g : Nat → Int32) (H : Heap) (locs : List Loc) (ls : Array Slot), t = zN p0 5 → va_P D vwCl [((a 6), .inl (cI, 200, .inl g)), ((a 0), .inr (12, zMo a (upd (upd zI0 0 0) 7 t)))] H → va_D A [((a 6), .inl (cI, 200, .inl g)), ((a 0), .inr (12, zMo a (upd (upd zI0 0 0) 7 t)))] → va_S A s.heap H locs → lv_has ls 6 [(4, .int 24), (3, .int (zN p0 8)), (0, .ref (a 0)), (1, .long p0)] → W p l e (headSpec (.code yX12_type cX12_type 6 (some .int) :: zT) ({ frames := 1, cells := 0, slots := 0, locals := 22 })).room s m (([.ref (a 0), .long p0] : List Value)).toArray below meth c H locs 0 0 (MQ below (va_Qi (fun (r : Int32) (u : Nat → Int32) => u 0 = 0 ∧ r = zN p0 8) (fun u t => zE D [(a 0, .inr (12, zMo a u))] [] A t) A) (([.ref (a 0), .long p0] : List Value)).toArray s 0 0 A) (F0 m 119 ls []) := by
                                                            intro t g_4 H locs ls et hP hD hS hl
                                                            subst et
                                                            refine lv_iinc (v := 16) (lv' := [(4, .int 16), (3, .int (zN p0 8)), (0, .ref (a 0)), (1, .long p0)]) hx hb dX12_type_119 hl (k := 0) rfl (by decide) (by decide) rfl (fun ls hl => ?_)
                                                            refine lv_goto (tgt := 74) hx hb dX12_type_122 (by decide) ?_
                                                            refine lv_iload hx hb dX12_type_74 (lv_at hl 0 rfl) ?_
                                                            refine lv_if_lt (tgt := 125) hx hb dX12_type_76 (by decide) (fun c_40 => ?_) (fun c_40 => ?_)
                                                            · skip
                                                              exact absurd c_40 (by decide)
                                                            · skip
                                                              have hP : va_P D vwCl [((a 6), .inl (cI, 200, .inl g_4)), ((a 0), .inr (12, zMo a (upd (upd zI0 0 0) 7 (zN p0 5))))] H := hP
                                                              have hD : va_D A [((a 6), .inl (cI, 200, .inl g_4)), ((a 0), .inr (12, zMo a (upd (upd zI0 0 0) 7 (zN p0 5))))] := hD
                                                              have hk_5 : ∀ (t : Int32) (g : Nat → Int32) (H : Heap) (locs : List Loc) (ls : Array Slot), t = zN p0 6 → va_P D vwCl [((a 6), .inl (cI, 200, .inl g)), ((a 0), .inr (12, zMo a (upd (upd zI0 0 0) 7 t)))] H → va_D A [((a 6), .inl (cI, 200, .inl g)), ((a 0), .inr (12, zMo a (upd (upd zI0 0 0) 7 t)))] → va_S A s.heap H locs → lv_has ls 6 [(4, .int 16), (3, .int (zN p0 8)), (0, .ref (a 0)), (1, .long p0)] → W p l e (headSpec (.code yX12_type cX12_type 6 (some .int) :: zT) ({ frames := 1, cells := 0, slots := 0, locals := 22 })).room s m (([.ref (a 0), .long p0] : List Value)).toArray below meth c H locs 0 0 (MQ below (va_Qi (fun (r : Int32) (u : Nat → Int32) => u 0 = 0 ∧ r = zN p0 8) (fun u t => zE D [(a 0, .inr (12, zMo a u))] [] A t) A) (([.ref (a 0), .long p0] : List Value)).toArray s 0 0 A) (F0 m 119 ls []) := by
                                                                intro t g_5 H locs ls et hP hD hS hl
                                                                subst et
                                                                refine lv_iinc (v := 8) (lv' := [(4, .int 8), (3, .int (zN p0 8)), (0, .ref (a 0)), (1, .long p0)]) hx hb dX12_type_119 hl (k := 0) rfl (by decide) (by decide) rfl (fun ls hl => ?_)
                                                                refine lv_goto (tgt := 74) hx hb dX12_type_122 (by decide) ?_
                                                                refine lv_iload hx hb dX12_type_74 (lv_at hl 0 rfl) ?_
                                                                refine lv_if_lt (tgt := 125) hx hb dX12_type_76 (by decide) (fun c_42 => ?_) (fun c_42 => ?_)
                                                                · skip
                                                                  exact absurd c_42 (by decide)
                                                                · skip
                                                                  have hP : va_P D vwCl [((a 6), .inl (cI, 200, .inl g_5)), ((a 0), .inr (12, zMo a (upd (upd zI0 0 0) 7 (zN p0 6))))] H := hP
                                                                  have hD : va_D A [((a 6), .inl (cI, 200, .inl g_5)), ((a 0), .inr (12, zMo a (upd (upd zI0 0 0) 7 (zN p0 6))))] := hD
                                                                  have hk_6 : ∀ (t : Int32) (g : Nat → Int32) (H : Heap) (locs : List Loc) (ls : Array Slot), t = zN p0 7 → va_P D vwCl [((a 6), .inl (cI, 200, .inl g)), ((a 0), .inr (12, zMo a (upd (upd zI0 0 0) 7 t)))] H → va_D A [((a 6), .inl (cI, 200, .inl g)), ((a 0), .inr (12, zMo a (upd (upd zI0 0 0) 7 t)))] → va_S A s.heap H locs → lv_has ls 6 [(4, .int 8), (3, .int (zN p0 8)), (0, .ref (a 0)), (1, .long p0)] → W p l e (headSpec (.code yX12_type cX12_type 6 (some .int) :: zT) ({ frames := 1, cells := 0, slots := 0, locals := 22 })).room s m (([.ref (a 0), .long p0] : List Value)).toArray below meth c H locs 0 0 (MQ below (va_Qi (fun (r : Int32) (u : Nat → Int32) => u 0 = 0 ∧ r = zN p0 8) (fun u t => zE D [(a 0, .inr (12, zMo a u))] [] A t) A) (([.ref (a 0), .long p0] : List Value)).toArray s 0 0 A) (F0 m 119 ls []) := by
                                                                    intro t g_6 H locs ls et hP hD hS hl
                                                                    subst et
                                                                    refine lv_iinc (v := 0) (lv' := [(4, .int 0), (3, .int (zN p0 8)), (0, .ref (a 0)), (1, .long p0)]) hx hb dX12_type_119 hl (k := 0) rfl (by decide) (by decide) rfl (fun ls hl => ?_)
                                                                    refine lv_goto (tgt := 74) hx hb dX12_type_122 (by decide) ?_
                                                                    refine lv_iload hx hb dX12_type_74 (lv_at hl 0 rfl) ?_
                                                                    refine lv_if_lt (tgt := 125) hx hb dX12_type_76 (by decide) (fun c_44 => ?_) (fun c_44 => ?_)
                                                                    · skip
                                                                      exact absurd c_44 (by decide)
                                                                    · skip
                                                                      have hP : va_P D vwCl [((a 6), .inl (cI, 200, .inl g_6)), ((a 0), .inr (12, zMo a (upd (upd zI0 0 0) 7 (zN p0 7))))] H := hP
                                                                      have hD : va_D A [((a 6), .inl (cI, 200, .inl g_6)), ((a 0), .inr (12, zMo a (upd (upd zI0 0 0) 7 (zN p0 7))))] := hD
                                                                      have hk_7 : ∀ (t : Int32) (g : Nat → Int32) (H : Heap) (locs : List Loc) (ls : Array Slot), t = zN p0 8 → va_P D vwCl [((a 6), .inl (cI, 200, .inl g)), ((a 0), .inr (12, zMo a (upd (upd zI0 0 0) 7 t)))] H → va_D A [((a 6), .inl (cI, 200, .inl g)), ((a 0), .inr (12, zMo a (upd (upd zI0 0 0) 7 t)))] → va_S A s.heap H locs → lv_has ls 6 [(4, .int 0), (3, .int (zN p0 8)), (0, .ref (a 0)), (1, .long p0)] → W p l e (headSpec (.code yX12_type cX12_type 6 (some .int) :: zT) ({ frames := 1, cells := 0, slots := 0, locals := 22 })).room s m (([.ref (a 0), .long p0] : List Value)).toArray below meth c H locs 0 0 (MQ below (va_Qi (fun (r : Int32) (u : Nat → Int32) => u 0 = 0 ∧ r = zN p0 8) (fun u t => zE D [(a 0, .inr (12, zMo a u))] [] A t) A) (([.ref (a 0), .long p0] : List Value)).toArray s 0 0 A) (F0 m 119 ls []) := by
                                                                        intro t g_7 H locs ls et hP hD hS hl
                                                                        subst et
                                                                        refine lv_iinc (v := (-8)) (lv' := [(4, .int (-8)), (3, .int (zN p0 8)), (0, .ref (a 0)), (1, .long p0)]) hx hb dX12_type_119 hl (k := 0) rfl (by decide) (by decide) rfl (fun ls hl => ?_)
                                                                        refine lv_goto (tgt := 74) hx hb dX12_type_122 (by decide) ?_
                                                                        refine lv_iload hx hb dX12_type_74 (lv_at hl 0 rfl) ?_
                                                                        refine lv_if_lt (tgt := 125) hx hb dX12_type_76 (by decide) (fun c_46 => ?_) (fun c_46 => ?_)
                                                                        · skip
                                                                          refine lv_aload_n hx hb dX12_type_125 rfl (lv_at hl 2 rfl) ?_
                                                                          refine va_get (D := D) (ci := 12) (v := .int (zN p0 8)) (C := RX12) (T := TX12) (N := 25) hx hb ht zinX12 hown hK hP 1 rfl rfl 7 (by decide) (ht _ zw_110) (fun _ h9 => h9) rfl dX12_type_126 ?_
                                                                          have hP9 := hP.sub (ws' := [((a 0), .inr (12, zMo a (upd (upd zI0 0 0) 7 (zN p0 8))))]) [1] rfl
                                                                          have hD9 := hD.sub (ws' := [((a 0), .inr (12, zMo a (upd (upd zI0 0 0) 7 (zN p0 8))))]) [1] (by decide) rfl
                                                                          have hK9 := hK.sub (tys' := []) [] rfl
                                                                          refine W.widen (k := 0) (n := 0) (Nat.le_of_ble_eq_true rfl) (Nat.le_of_ble_eq_true rfl) ?_
                                                                          exact W.iret (v := (zN p0 8)) hx hb hr (fun t ht0 hW => ⟨⟨(zN p0 8), upd (upd zI0 0 0) 7 (zN p0 8), rfl, ⟨rfl, rfl⟩, (zE_of hP9 hK9 hD9 ht0 hW)⟩, hS.F ht0⟩) hS.2.2 dX12_type_129
                                                                        · skip
                                                                          exact absurd c_46 (by decide)
                                                                      refine lv_lload_n hx hb dX12_type_79 rfl (lv_at hl 3 rfl) ?_
                                                                      refine lv_iload hx hb dX12_type_80 (lv_at hl 0 rfl) ?_
                                                                      refine lv_lushr (v := ((p0).toUInt64 >>> ((0 : Int32).toInt64.toUInt64 &&& Int64.toUInt64 63)).toInt64) hx hb dX12_type_82 rfl ?_
                                                                      refine lv_ldc2 (v := 255) hx hb hown (ht _ zw_142) dX12_type_83 ?_
                                                                      refine lv_land hx hb dX12_type_86 ?_
                                                                      refine lv_l2i (v := ((((p0).toUInt64 >>> ((0 : Int32).toInt64.toUInt64 &&& Int64.toUInt64 63)).toInt64) &&& 255).toInt32) hx hb dX12_type_87 rfl ?_
                                                                      refine lv_istore (lv' := [(5, .int (((((p0).toUInt64 >>> ((0 : Int32).toInt64.toUInt64 &&& Int64.toUInt64 63)).toInt64) &&& 255).toInt32)), (4, .int 0), (3, .int (zN p0 8)), (0, .ref (a 0)), (1, .long p0)]) hx hb dX12_type_88 hl (by decide) rfl (fun ls hl => ?_)
                                                                      refine lv_iload hx hb dX12_type_90 (lv_at hl 0 rfl) ?_
                                                                      refine lv_if_ne (tgt := 98) hx hb dX12_type_92 (by decide) (fun c_47 => ?_) (fun c_47 => ?_)
                                                                      · skip
                                                                        refine lv_aload_n hx hb dX12_type_98 rfl (lv_at hl 3 rfl) ?_
                                                                        refine va_get (D := D) (ci := 12) (v := .ref (a 6)) (C := RX12) (T := TX12) (N := 25) hx hb ht zinX12 hown hK hP 1 rfl rfl 6 (by decide) (ht _ zw_143) (fun _ h9 => h9) rfl dX12_type_99 ?_
                                                                        refine lv_aload_n hx hb dX12_type_102 rfl (lv_at hl 3 rfl) ?_
                                                                        refine va_get (D := D) (ci := 12) (v := .int (zN p0 7)) (C := RX12) (T := TX12) (N := 25) hx hb ht zinX12 hown hK hP 1 rfl rfl 7 (by decide) (ht _ zw_110) (fun _ h9 => h9) rfl dX12_type_103 ?_
                                                                        refine lv_iload hx hb dX12_type_106 (lv_at hl 0 rfl) ?_
                                                                        refine va_iast hx hb hK hP hD hS 0 0 rfl rfl (by have hz := zN_le p0 7 (by decide); exact vp_in_iff.mpr ⟨hz.1, by omega⟩) dX12_type_108 (fun H locs hP hD hS => ?_)
                                                                        have hP : va_P D vwCl [((a 6), .inl (cI, 200, .inl (upd g_6 (zN p0 7).toNatClampNeg (((((p0).toUInt64 >>> ((0 : Int32).toInt64.toUInt64 &&& Int64.toUInt64 63)).toInt64) &&& 255).toInt32)))), ((a 0), .inr (12, zMo a (upd (upd zI0 0 0) 7 (zN p0 7))))] H := hP
                                                                        have hD : va_D A [((a 6), .inl (cI, 200, .inl (upd g_6 (zN p0 7).toNatClampNeg (((((p0).toUInt64 >>> ((0 : Int32).toInt64.toUInt64 &&& Int64.toUInt64 63)).toInt64) &&& 255).toInt32)))), ((a 0), .inr (12, zMo a (upd (upd zI0 0 0) 7 (zN p0 7))))] := hD
                                                                        refine lv_aload_n hx hb dX12_type_109 rfl (lv_at hl 3 rfl) ?_
                                                                        refine lv_dup hx hb dX12_type_110 rfl ?_
                                                                        refine va_get (D := D) (ci := 12) (v := .int (zN p0 7)) (C := RX12) (T := TX12) (N := 25) hx hb ht zinX12 hown hK hP 1 rfl rfl 7 (by decide) (ht _ zw_110) (fun _ h9 => h9) rfl dX12_type_111 ?_
                                                                        refine lv_iconst (v := 1) hx hb dX12_type_114 (by decide) ?_
                                                                        refine lv_iadd hx hb dX12_type_115 ?_
                                                                        refine lv_topi (fun x_48 e_48 => ?_)
                                                                        refine va_put (D := D) (ci := 12) (v := .int x_48) (ty := .int) (C := RX12) (T := TX12) (N := 25) hx hb ht zinX12 tyX12 tyX12_ok nmX12 hown hK hP hD hS 1 rfl rfl 7 (by decide) (ht _ zw_110) (fun _ h9 => h9) rfl (by decide +kernel) rfl rfl (Nat.le_of_ble_eq_true rfl) dX12_type_116 (fun H locs hP hD hS => ?_)
                                                                        have hP : va_P D vwCl [((a 6), .inl (cI, 200, .inl (upd g_6 (zN p0 7).toNatClampNeg (((((p0).toUInt64 >>> ((0 : Int32).toInt64.toUInt64 &&& Int64.toUInt64 63)).toInt64) &&& 255).toInt32)))), ((a 0), .inr (12, zMo a (upd (upd zI0 0 0) 7 x_48)))] H := hP
                                                                        have hD : va_D A [((a 6), .inl (cI, 200, .inl (upd g_6 (zN p0 7).toNatClampNeg (((((p0).toUInt64 >>> ((0 : Int32).toInt64.toUInt64 &&& Int64.toUInt64 63)).toInt64) &&& 255).toInt32)))), ((a 0), .inr (12, zMo a (upd (upd zI0 0 0) 7 x_48)))] := hD
                                                                        exact hk_7 _ (upd g_6 (zN p0 7).toNatClampNeg (((((p0).toUInt64 >>> ((0 : Int32).toInt64.toUInt64 &&& Int64.toUInt64 63)).toInt64) &&& 255).toInt32)) _ _ ls (by rw [e_48]; show zN p0 7 + 1 = zN p0 7 + zC p0 0; unfold zC; rw [if_neg (show ¬ zB p0 0 = 0 from fun q => c_47 ((zB_32 _ _).mpr q))]) hP hD hS (lv_sub hl [1, 2, 3, 4] rfl)
                                                                      · skip
                                                                        refine lv_goto (tgt := 119) hx hb dX12_type_95 (by decide) ?_
                                                                        exact hk_7 _ g_6 _ _ ls (by show zN p0 7 = zN p0 7 + zC p0 0; unfold zC; rw [if_pos (show zB p0 0 = 0 from (zB_32 _ _).mp c_47), Int32.add_zero]) hP hD hS (lv_sub hl [1, 2, 3, 4] rfl)
                                                                  refine lv_lload_n hx hb dX12_type_79 rfl (lv_at hl 3 rfl) ?_
                                                                  refine lv_iload hx hb dX12_type_80 (lv_at hl 0 rfl) ?_
                                                                  refine lv_lushr (v := ((p0).toUInt64 >>> ((8 : Int32).toInt64.toUInt64 &&& Int64.toUInt64 63)).toInt64) hx hb dX12_type_82 rfl ?_
                                                                  refine lv_ldc2 (v := 255) hx hb hown (ht _ zw_142) dX12_type_83 ?_
                                                                  refine lv_land hx hb dX12_type_86 ?_
                                                                  refine lv_l2i (v := ((((p0).toUInt64 >>> ((8 : Int32).toInt64.toUInt64 &&& Int64.toUInt64 63)).toInt64) &&& 255).toInt32) hx hb dX12_type_87 rfl ?_
                                                                  refine lv_istore (lv' := [(5, .int (((((p0).toUInt64 >>> ((8 : Int32).toInt64.toUInt64 &&& Int64.toUInt64 63)).toInt64) &&& 255).toInt32)), (4, .int 8), (3, .int (zN p0 8)), (0, .ref (a 0)), (1, .long p0)]) hx hb dX12_type_88 hl (by decide) rfl (fun ls hl => ?_)
                                                                  refine lv_iload hx hb dX12_type_90 (lv_at hl 0 rfl) ?_
                                                                  refine lv_if_ne (tgt := 98) hx hb dX12_type_92 (by decide) (fun c_49 => ?_) (fun c_49 => ?_)
                                                                  · skip
                                                                    refine lv_aload_n hx hb dX12_type_98 rfl (lv_at hl 3 rfl) ?_
                                                                    refine va_get (D := D) (ci := 12) (v := .ref (a 6)) (C := RX12) (T := TX12) (N := 25) hx hb ht zinX12 hown hK hP 1 rfl rfl 6 (by decide) (ht _ zw_143) (fun _ h9 => h9) rfl dX12_type_99 ?_
                                                                    refine lv_aload_n hx hb dX12_type_102 rfl (lv_at hl 3 rfl) ?_
                                                                    refine va_get (D := D) (ci := 12) (v := .int (zN p0 6)) (C := RX12) (T := TX12) (N := 25) hx hb ht zinX12 hown hK hP 1 rfl rfl 7 (by decide) (ht _ zw_110) (fun _ h9 => h9) rfl dX12_type_103 ?_
                                                                    refine lv_iload hx hb dX12_type_106 (lv_at hl 0 rfl) ?_
                                                                    refine va_iast hx hb hK hP hD hS 0 0 rfl rfl (by have hz := zN_le p0 6 (by decide); exact vp_in_iff.mpr ⟨hz.1, by omega⟩) dX12_type_108 (fun H locs hP hD hS => ?_)
                                                                    have hP : va_P D vwCl [((a 6), .inl (cI, 200, .inl (upd g_5 (zN p0 6).toNatClampNeg (((((p0).toUInt64 >>> ((8 : Int32).toInt64.toUInt64 &&& Int64.toUInt64 63)).toInt64) &&& 255).toInt32)))), ((a 0), .inr (12, zMo a (upd (upd zI0 0 0) 7 (zN p0 6))))] H := hP
                                                                    have hD : va_D A [((a 6), .inl (cI, 200, .inl (upd g_5 (zN p0 6).toNatClampNeg (((((p0).toUInt64 >>> ((8 : Int32).toInt64.toUInt64 &&& Int64.toUInt64 63)).toInt64) &&& 255).toInt32)))), ((a 0), .inr (12, zMo a (upd (upd zI0 0 0) 7 (zN p0 6))))] := hD
                                                                    refine lv_aload_n hx hb dX12_type_109 rfl (lv_at hl 3 rfl) ?_
                                                                    refine lv_dup hx hb dX12_type_110 rfl ?_
                                                                    refine va_get (D := D) (ci := 12) (v := .int (zN p0 6)) (C := RX12) (T := TX12) (N := 25) hx hb ht zinX12 hown hK hP 1 rfl rfl 7 (by decide) (ht _ zw_110) (fun _ h9 => h9) rfl dX12_type_111 ?_
                                                                    refine lv_iconst (v := 1) hx hb dX12_type_114 (by decide) ?_
                                                                    refine lv_iadd hx hb dX12_type_115 ?_
                                                                    refine lv_topi (fun x_50 e_50 => ?_)
                                                                    refine va_put (D := D) (ci := 12) (v := .int x_50) (ty := .int) (C := RX12) (T := TX12) (N := 25) hx hb ht zinX12 tyX12 tyX12_ok nmX12 hown hK hP hD hS 1 rfl rfl 7 (by decide) (ht _ zw_110) (fun _ h9 => h9) rfl (by decide +kernel) rfl rfl (Nat.le_of_ble_eq_true rfl) dX12_type_116 (fun H locs hP hD hS => ?_)
                                                                    have hP : va_P D vwCl [((a 6), .inl (cI, 200, .inl (upd g_5 (zN p0 6).toNatClampNeg (((((p0).toUInt64 >>> ((8 : Int32).toInt64.toUInt64 &&& Int64.toUInt64 63)).toInt64) &&& 255).toInt32)))), ((a 0), .inr (12, zMo a (upd (upd zI0 0 0) 7 x_50)))] H := hP
                                                                    have hD : va_D A [((a 6), .inl (cI, 200, .inl (upd g_5 (zN p0 6).toNatClampNeg (((((p0).toUInt64 >>> ((8 : Int32).toInt64.toUInt64 &&& Int64.toUInt64 63)).toInt64) &&& 255).toInt32)))), ((a 0), .inr (12, zMo a (upd (upd zI0 0 0) 7 x_50)))] := hD
                                                                    exact hk_6 _ (upd g_5 (zN p0 6).toNatClampNeg (((((p0).toUInt64 >>> ((8 : Int32).toInt64.toUInt64 &&& Int64.toUInt64 63)).toInt64) &&& 255).toInt32)) _ _ ls (by rw [e_50]; show zN p0 6 + 1 = zN p0 6 + zC p0 8; unfold zC; rw [if_neg (show ¬ zB p0 8 = 0 from fun q => c_49 ((zB_32 _ _).mpr q))]) hP hD hS (lv_sub hl [1, 2, 3, 4] rfl)
                                                                  · skip
                                                                    refine lv_goto (tgt := 119) hx hb dX12_type_95 (by decide) ?_
                                                                    exact hk_6 _ g_5 _ _ ls (by show zN p0 6 = zN p0 6 + zC p0 8; unfold zC; rw [if_pos (show zB p0 8 = 0 from (zB_32 _ _).mp c_49), Int32.add_zero]) hP hD hS (lv_sub hl [1, 2, 3, 4] rfl)
                                                              refine lv_lload_n hx hb dX12_type_79 rfl (lv_at hl 3 rfl) ?_
                                                              refine lv_iload hx hb dX12_type_80 (lv_at hl 0 rfl) ?_
                                                              refine lv_lushr (v := ((p0).toUInt64 >>> ((16 : Int32).toInt64.toUInt64 &&& Int64.toUInt64 63)).toInt64) hx hb dX12_type_82 rfl ?_
                                                              refine lv_ldc2 (v := 255) hx hb hown (ht _ zw_142) dX12_type_83 ?_
                                                              refine lv_land hx hb dX12_type_86 ?_
                                                              refine lv_l2i (v := ((((p0).toUInt64 >>> ((16 : Int32).toInt64.toUInt64 &&& Int64.toUInt64 63)).toInt64) &&& 255).toInt32) hx hb dX12_type_87 rfl ?_
                                                              refine lv_istore (lv' := [(5, .int (((((p0).toUInt64 >>> ((16 : Int32).toInt64.toUInt64 &&& Int64.toUInt64 63)).toInt64) &&& 255).toInt32)), (4, .int 16), (3, .int (zN p0 8)), (0, .ref (a 0)), (1, .long p0)]) hx hb dX12_type_88 hl (by decide) rfl (fun ls hl => ?_)
                                                              refine lv_iload hx hb dX12_type_90 (lv_at hl 0 rfl) ?_
                                                              refine lv_if_ne (tgt := 98) hx hb dX12_type_92 (by decide) (fun c_51 => ?_) (fun c_51 => ?_)
                                                              · skip
                                                                refine lv_aload_n hx hb dX12_type_98 rfl (lv_at hl 3 rfl) ?_
                                                                refine va_get (D := D) (ci := 12) (v := .ref (a 6)) (C := RX12) (T := TX12) (N := 25) hx hb ht zinX12 hown hK hP 1 rfl rfl 6 (by decide) (ht _ zw_143) (fun _ h9 => h9) rfl dX12_type_99 ?_
                                                                refine lv_aload_n hx hb dX12_type_102 rfl (lv_at hl 3 rfl) ?_
                                                                refine va_get (D := D) (ci := 12) (v := .int (zN p0 5)) (C := RX12) (T := TX12) (N := 25) hx hb ht zinX12 hown hK hP 1 rfl rfl 7 (by decide) (ht _ zw_110) (fun _ h9 => h9) rfl dX12_type_103 ?_
                                                                refine lv_iload hx hb dX12_type_106 (lv_at hl 0 rfl) ?_
                                                                refine va_iast hx hb hK hP hD hS 0 0 rfl rfl (by have hz := zN_le p0 5 (by decide); exact vp_in_iff.mpr ⟨hz.1, by omega⟩) dX12_type_108 (fun H locs hP hD hS => ?_)
                                                                have hP : va_P D vwCl [((a 6), .inl (cI, 200, .inl (upd g_4 (zN p0 5).toNatClampNeg (((((p0).toUInt64 >>> ((16 : Int32).toInt64.toUInt64 &&& Int64.toUInt64 63)).toInt64) &&& 255).toInt32)))), ((a 0), .inr (12, zMo a (upd (upd zI0 0 0) 7 (zN p0 5))))] H := hP
                                                                have hD : va_D A [((a 6), .inl (cI, 200, .inl (upd g_4 (zN p0 5).toNatClampNeg (((((p0).toUInt64 >>> ((16 : Int32).toInt64.toUInt64 &&& Int64.toUInt64 63)).toInt64) &&& 255).toInt32)))), ((a 0), .inr (12, zMo a (upd (upd zI0 0 0) 7 (zN p0 5))))] := hD
                                                                refine lv_aload_n hx hb dX12_type_109 rfl (lv_at hl 3 rfl) ?_
                                                                refine lv_dup hx hb dX12_type_110 rfl ?_
                                                                refine va_get (D := D) (ci := 12) (v := .int (zN p0 5)) (C := RX12) (T := TX12) (N := 25) hx hb ht zinX12 hown hK hP 1 rfl rfl 7 (by decide) (ht _ zw_110) (fun _ h9 => h9) rfl dX12_type_111 ?_
                                                                refine lv_iconst (v := 1) hx hb dX12_type_114 (by decide) ?_
                                                                refine lv_iadd hx hb dX12_type_115 ?_
                                                                refine lv_topi (fun x_52 e_52 => ?_)
                                                                refine va_put (D := D) (ci := 12) (v := .int x_52) (ty := .int) (C := RX12) (T := TX12) (N := 25) hx hb ht zinX12 tyX12 tyX12_ok nmX12 hown hK hP hD hS 1 rfl rfl 7 (by decide) (ht _ zw_110) (fun _ h9 => h9) rfl (by decide +kernel) rfl rfl (Nat.le_of_ble_eq_true rfl) dX12_type_116 (fun H locs hP hD hS => ?_)
                                                                have hP : va_P D vwCl [((a 6), .inl (cI, 200, .inl (upd g_4 (zN p0 5).toNatClampNeg (((((p0).toUInt64 >>> ((16 : Int32).toInt64.toUInt64 &&& Int64.toUInt64 63)).toInt64) &&& 255).toInt32)))), ((a 0), .inr (12, zMo a (upd (upd zI0 0 0) 7 x_52)))] H := hP
                                                                have hD : va_D A [((a 6), .inl (cI, 200, .inl (upd g_4 (zN p0 5).toNatClampNeg (((((p0).toUInt64 >>> ((16 : Int32).toInt64.toUInt64 &&& Int64.toUInt64 63)).toInt64) &&& 255).toInt32)))), ((a 0), .inr (12, zMo a (upd (upd zI0 0 0) 7 x_52)))] := hD
                                                                exact hk_5 _ (upd g_4 (zN p0 5).toNatClampNeg (((((p0).toUInt64 >>> ((16 : Int32).toInt64.toUInt64 &&& Int64.toUInt64 63)).toInt64) &&& 255).toInt32)) _ _ ls (by rw [e_52]; show zN p0 5 + 1 = zN p0 5 + zC p0 16; unfold zC; rw [if_neg (show ¬ zB p0 16 = 0 from fun q => c_51 ((zB_32 _ _).mpr q))]) hP hD hS (lv_sub hl [1, 2, 3, 4] rfl)
                                                              · skip
                                                                refine lv_goto (tgt := 119) hx hb dX12_type_95 (by decide) ?_
                                                                exact hk_5 _ g_4 _ _ ls (by show zN p0 5 = zN p0 5 + zC p0 16; unfold zC; rw [if_pos (show zB p0 16 = 0 from (zB_32 _ _).mp c_51), Int32.add_zero]) hP hD hS (lv_sub hl [1, 2, 3, 4] rfl)
                                                          refine lv_lload_n hx hb dX12_type_79 rfl (lv_at hl 3 rfl) ?_
                                                          refine lv_iload hx hb dX12_type_80 (lv_at hl 0 rfl) ?_
                                                          refine lv_lushr (v := ((p0).toUInt64 >>> ((24 : Int32).toInt64.toUInt64 &&& Int64.toUInt64 63)).toInt64) hx hb dX12_type_82 rfl ?_
                                                          refine lv_ldc2 (v := 255) hx hb hown (ht _ zw_142) dX12_type_83 ?_
                                                          refine lv_land hx hb dX12_type_86 ?_
                                                          refine lv_l2i (v := ((((p0).toUInt64 >>> ((24 : Int32).toInt64.toUInt64 &&& Int64.toUInt64 63)).toInt64) &&& 255).toInt32) hx hb dX12_type_87 rfl ?_
                                                          refine lv_istore (lv' := [(5, .int (((((p0).toUInt64 >>> ((24 : Int32).toInt64.toUInt64 &&& Int64.toUInt64 63)).toInt64) &&& 255).toInt32)), (4, .int 24), (3, .int (zN p0 8)), (0, .ref (a 0)), (1, .long p0)]) hx hb dX12_type_88 hl (by decide) rfl (fun ls hl => ?_)
                                                          refine lv_iload hx hb dX12_type_90 (lv_at hl 0 rfl) ?_
                                                          refine lv_if_ne (tgt := 98) hx hb dX12_type_92 (by decide) (fun c_53 => ?_) (fun c_53 => ?_)
                                                          · skip
                                                            refine lv_aload_n hx hb dX12_type_98 rfl (lv_at hl 3 rfl) ?_
                                                            refine va_get (D := D) (ci := 12) (v := .ref (a 6)) (C := RX12) (T := TX12) (N := 25) hx hb ht zinX12 hown hK hP 1 rfl rfl 6 (by decide) (ht _ zw_143) (fun _ h9 => h9) rfl dX12_type_99 ?_
                                                            refine lv_aload_n hx hb dX12_type_102 rfl (lv_at hl 3 rfl) ?_
                                                            refine va_get (D := D) (ci := 12) (v := .int (zN p0 4)) (C := RX12) (T := TX12) (N := 25) hx hb ht zinX12 hown hK hP 1 rfl rfl 7 (by decide) (ht _ zw_110) (fun _ h9 => h9) rfl dX12_type_103 ?_
                                                            refine lv_iload hx hb dX12_type_106 (lv_at hl 0 rfl) ?_
                                                            refine va_iast hx hb hK hP hD hS 0 0 rfl rfl (by have hz := zN_le p0 4 (by decide); exact vp_in_iff.mpr ⟨hz.1, by omega⟩) dX12_type_108 (fun H locs hP hD hS => ?_)
                                                            have hP : va_P D vwCl [((a 6), .inl (cI, 200, .inl (upd g_3 (zN p0 4).toNatClampNeg (((((p0).toUInt64 >>> ((24 : Int32).toInt64.toUInt64 &&& Int64.toUInt64 63)).toInt64) &&& 255).toInt32)))), ((a 0), .inr (12, zMo a (upd (upd zI0 0 0) 7 (zN p0 4))))] H := hP
                                                            have hD : va_D A [((a 6), .inl (cI, 200, .inl (upd g_3 (zN p0 4).toNatClampNeg (((((p0).toUInt64 >>> ((24 : Int32).toInt64.toUInt64 &&& Int64.toUInt64 63)).toInt64) &&& 255).toInt32)))), ((a 0), .inr (12, zMo a (upd (upd zI0 0 0) 7 (zN p0 4))))] := hD
                                                            refine lv_aload_n hx hb dX12_type_109 rfl (lv_at hl 3 rfl) ?_
                                                            refine lv_dup hx hb dX12_type_110 rfl ?_
                                                            refine va_get (D := D) (ci := 12) (v := .int (zN p0 4)) (C := RX12) (T := TX12) (N := 25) hx hb ht zinX12 hown hK hP 1 rfl rfl 7 (by decide) (ht _ zw_110) (fun _ h9 => h9) rfl dX12_type_111 ?_
                                                            refine lv_iconst (v := 1) hx hb dX12_type_114 (by decide) ?_
                                                            refine lv_iadd hx hb dX12_type_115 ?_
                                                            refine lv_topi (fun x_54 e_54 => ?_)
                                                            refine va_put (D := D) (ci := 12) (v := .int x_54) (ty := .int) (C := RX12) (T := TX12) (N := 25) hx hb ht zinX12 tyX12 tyX12_ok nmX12 hown hK hP hD hS 1 rfl rfl 7 (by decide) (ht _ zw_110) (fun _ h9 => h9) rfl (by decide +kernel) rfl rfl (Nat.le_of_ble_eq_true rfl) dX12_type_116 (fun H locs hP hD hS => ?_)
                                                            have hP : va_P D vwCl [((a 6), .inl (cI, 200, .inl (upd g_3 (zN p0 4).toNatClampNeg (((((p0).toUInt64 >>> ((24 : Int32).toInt64.toUInt64 &&& Int64.toUInt64 63)).toInt64) &&& 255).toInt32)))), ((a 0), .inr (12, zMo a (upd (upd zI0 0 0) 7 x_54)))] H := hP
                                                            have hD : va_D A [((a 6), .inl (cI, 200, .inl (upd g_3 (zN p0 4).toNatClampNeg (((((p0).toUInt64 >>> ((24 : Int32).toInt64.toUInt64 &&& Int64.toUInt64 63)).toInt64) &&& 255).toInt32)))), ((a 0), .inr (12, zMo a (upd (upd zI0 0 0) 7 x_54)))] := hD
                                                            exact hk_4 _ (upd g_3 (zN p0 4).toNatClampNeg (((((p0).toUInt64 >>> ((24 : Int32).toInt64.toUInt64 &&& Int64.toUInt64 63)).toInt64) &&& 255).toInt32)) _ _ ls (by rw [e_54]; show zN p0 4 + 1 = zN p0 4 + zC p0 24; unfold zC; rw [if_neg (show ¬ zB p0 24 = 0 from fun q => c_53 ((zB_32 _ _).mpr q))]) hP hD hS (lv_sub hl [1, 2, 3, 4] rfl)
                                                          · skip
                                                            refine lv_goto (tgt := 119) hx hb dX12_type_95 (by decide) ?_
                                                            exact hk_4 _ g_3 _ _ ls (by show zN p0 4 = zN p0 4 + zC p0 24; unfold zC; rw [if_pos (show zB p0 24 = 0 from (zB_32 _ _).mp c_53), Int32.add_zero]) hP hD hS (lv_sub hl [1, 2, 3, 4] rfl)
                                                      refine lv_lload_n hx hb dX12_type_79 rfl (lv_at hl 3 rfl) ?_
                                                      refine lv_iload hx hb dX12_type_80 (lv_at hl 0 rfl) ?_
                                                      refine lv_lushr (v := ((p0).toUInt64 >>> ((32 : Int32).toInt64.toUInt64 &&& Int64.toUInt64 63)).toInt64) hx hb dX12_type_82 rfl ?_
                                                      refine lv_ldc2 (v := 255) hx hb hown (ht _ zw_142) dX12_type_83 ?_
                                                      refine lv_land hx hb dX12_type_86 ?_
                                                      refine lv_l2i (v := ((((p0).toUInt64 >>> ((32 : Int32).toInt64.toUInt64 &&& Int64.toUInt64 63)).toInt64) &&& 255).toInt32) hx hb dX12_type_87 rfl ?_
                                                      refine lv_istore (lv' := [(5, .int (((((p0).toUInt64 >>> ((32 : Int32).toInt64.toUInt64 &&& Int64.toUInt64 63)).toInt64) &&& 255).toInt32)), (4, .int 32), (3, .int (zN p0 8)), (0, .ref (a 0)), (1, .long p0)]) hx hb dX12_type_88 hl (by decide) rfl (fun ls hl => ?_)
                                                      refine lv_iload hx hb dX12_type_90 (lv_at hl 0 rfl) ?_
                                                      refine lv_if_ne (tgt := 98) hx hb dX12_type_92 (by decide) (fun c_55 => ?_) (fun c_55 => ?_)
                                                      · skip
                                                        refine lv_aload_n hx hb dX12_type_98 rfl (lv_at hl 3 rfl) ?_
                                                        refine va_get (D := D) (ci := 12) (v := .ref (a 6)) (C := RX12) (T := TX12) (N := 25) hx hb ht zinX12 hown hK hP 1 rfl rfl 6 (by decide) (ht _ zw_143) (fun _ h9 => h9) rfl dX12_type_99 ?_
                                                        refine lv_aload_n hx hb dX12_type_102 rfl (lv_at hl 3 rfl) ?_
                                                        refine va_get (D := D) (ci := 12) (v := .int (zN p0 3)) (C := RX12) (T := TX12) (N := 25) hx hb ht zinX12 hown hK hP 1 rfl rfl 7 (by decide) (ht _ zw_110) (fun _ h9 => h9) rfl dX12_type_103 ?_
                                                        refine lv_iload hx hb dX12_type_106 (lv_at hl 0 rfl) ?_
                                                        refine va_iast hx hb hK hP hD hS 0 0 rfl rfl (by have hz := zN_le p0 3 (by decide); exact vp_in_iff.mpr ⟨hz.1, by omega⟩) dX12_type_108 (fun H locs hP hD hS => ?_)
                                                        have hP : va_P D vwCl [((a 6), .inl (cI, 200, .inl (upd g_2 (zN p0 3).toNatClampNeg (((((p0).toUInt64 >>> ((32 : Int32).toInt64.toUInt64 &&& Int64.toUInt64 63)).toInt64) &&& 255).toInt32)))), ((a 0), .inr (12, zMo a (upd (upd zI0 0 0) 7 (zN p0 3))))] H := hP
                                                        have hD : va_D A [((a 6), .inl (cI, 200, .inl (upd g_2 (zN p0 3).toNatClampNeg (((((p0).toUInt64 >>> ((32 : Int32).toInt64.toUInt64 &&& Int64.toUInt64 63)).toInt64) &&& 255).toInt32)))), ((a 0), .inr (12, zMo a (upd (upd zI0 0 0) 7 (zN p0 3))))] := hD
                                                        refine lv_aload_n hx hb dX12_type_109 rfl (lv_at hl 3 rfl) ?_
                                                        refine lv_dup hx hb dX12_type_110 rfl ?_
                                                        refine va_get (D := D) (ci := 12) (v := .int (zN p0 3)) (C := RX12) (T := TX12) (N := 25) hx hb ht zinX12 hown hK hP 1 rfl rfl 7 (by decide) (ht _ zw_110) (fun _ h9 => h9) rfl dX12_type_111 ?_
                                                        refine lv_iconst (v := 1) hx hb dX12_type_114 (by decide) ?_
                                                        refine lv_iadd hx hb dX12_type_115 ?_
                                                        refine lv_topi (fun x_56 e_56 => ?_)
                                                        refine va_put (D := D) (ci := 12) (v := .int x_56) (ty := .int) (C := RX12) (T := TX12) (N := 25) hx hb ht zinX12 tyX12 tyX12_ok nmX12 hown hK hP hD hS 1 rfl rfl 7 (by decide) (ht _ zw_110) (fun _ h9 => h9) rfl (by decide +kernel) rfl rfl (Nat.le_of_ble_eq_true rfl) dX12_type_116 (fun H locs hP hD hS => ?_)
                                                        have hP : va_P D vwCl [((a 6), .inl (cI, 200, .inl (upd g_2 (zN p0 3).toNatClampNeg (((((p0).toUInt64 >>> ((32 : Int32).toInt64.toUInt64 &&& Int64.toUInt64 63)).toInt64) &&& 255).toInt32)))), ((a 0), .inr (12, zMo a (upd (upd zI0 0 0) 7 x_56)))] H := hP
                                                        have hD : va_D A [((a 6), .inl (cI, 200, .inl (upd g_2 (zN p0 3).toNatClampNeg (((((p0).toUInt64 >>> ((32 : Int32).toInt64.toUInt64 &&& Int64.toUInt64 63)).toInt64) &&& 255).toInt32)))), ((a 0), .inr (12, zMo a (upd (upd zI0 0 0) 7 x_56)))] := hD
                                                        exact hk_3 _ (upd g_2 (zN p0 3).toNatClampNeg (((((p0).toUInt64 >>> ((32 : Int32).toInt64.toUInt64 &&& Int64.toUInt64 63)).toInt64) &&& 255).toInt32)) _ _ ls (by rw [e_56]; show zN p0 3 + 1 = zN p0 3 + zC p0 32; unfold zC; rw [if_neg (show ¬ zB p0 32 = 0 from fun q => c_55 ((zB_32 _ _).mpr q))]) hP hD hS (lv_sub hl [1, 2, 3, 4] rfl)
                                                      · skip
                                                        refine lv_goto (tgt := 119) hx hb dX12_type_95 (by decide) ?_
                                                        exact hk_3 _ g_2 _ _ ls (by show zN p0 3 = zN p0 3 + zC p0 32; unfold zC; rw [if_pos (show zB p0 32 = 0 from (zB_32 _ _).mp c_55), Int32.add_zero]) hP hD hS (lv_sub hl [1, 2, 3, 4] rfl)
                                                  refine lv_lload_n hx hb dX12_type_79 rfl (lv_at hl 3 rfl) ?_
                                                  refine lv_iload hx hb dX12_type_80 (lv_at hl 0 rfl) ?_
                                                  refine lv_lushr (v := ((p0).toUInt64 >>> ((40 : Int32).toInt64.toUInt64 &&& Int64.toUInt64 63)).toInt64) hx hb dX12_type_82 rfl ?_
                                                  refine lv_ldc2 (v := 255) hx hb hown (ht _ zw_142) dX12_type_83 ?_
                                                  refine lv_land hx hb dX12_type_86 ?_
                                                  refine lv_l2i (v := ((((p0).toUInt64 >>> ((40 : Int32).toInt64.toUInt64 &&& Int64.toUInt64 63)).toInt64) &&& 255).toInt32) hx hb dX12_type_87 rfl ?_
                                                  refine lv_istore (lv' := [(5, .int (((((p0).toUInt64 >>> ((40 : Int32).toInt64.toUInt64 &&& Int64.toUInt64 63)).toInt64) &&& 255).toInt32)), (4, .int 40), (3, .int (zN p0 8)), (0, .ref (a 0)), (1, .long p0)]) hx hb dX12_type_88 hl (by decide) rfl (fun ls hl => ?_)
                                                  refine lv_iload hx hb dX12_type_90 (lv_at hl 0 rfl) ?_
                                                  refine lv_if_ne (tgt := 98) hx hb dX12_type_92 (by decide) (fun c_57 => ?_) (fun c_57 => ?_)
                                                  · skip
                                                    refine lv_aload_n hx hb dX12_type_98 rfl (lv_at hl 3 rfl) ?_
                                                    refine va_get (D := D) (ci := 12) (v := .ref (a 6)) (C := RX12) (T := TX12) (N := 25) hx hb ht zinX12 hown hK hP 1 rfl rfl 6 (by decide) (ht _ zw_143) (fun _ h9 => h9) rfl dX12_type_99 ?_
                                                    refine lv_aload_n hx hb dX12_type_102 rfl (lv_at hl 3 rfl) ?_
                                                    refine va_get (D := D) (ci := 12) (v := .int (zN p0 2)) (C := RX12) (T := TX12) (N := 25) hx hb ht zinX12 hown hK hP 1 rfl rfl 7 (by decide) (ht _ zw_110) (fun _ h9 => h9) rfl dX12_type_103 ?_
                                                    refine lv_iload hx hb dX12_type_106 (lv_at hl 0 rfl) ?_
                                                    refine va_iast hx hb hK hP hD hS 0 0 rfl rfl (by have hz := zN_le p0 2 (by decide); exact vp_in_iff.mpr ⟨hz.1, by omega⟩) dX12_type_108 (fun H locs hP hD hS => ?_)
                                                    have hP : va_P D vwCl [((a 6), .inl (cI, 200, .inl (upd g_1 (zN p0 2).toNatClampNeg (((((p0).toUInt64 >>> ((40 : Int32).toInt64.toUInt64 &&& Int64.toUInt64 63)).toInt64) &&& 255).toInt32)))), ((a 0), .inr (12, zMo a (upd (upd zI0 0 0) 7 (zN p0 2))))] H := hP
                                                    have hD : va_D A [((a 6), .inl (cI, 200, .inl (upd g_1 (zN p0 2).toNatClampNeg (((((p0).toUInt64 >>> ((40 : Int32).toInt64.toUInt64 &&& Int64.toUInt64 63)).toInt64) &&& 255).toInt32)))), ((a 0), .inr (12, zMo a (upd (upd zI0 0 0) 7 (zN p0 2))))] := hD
                                                    refine lv_aload_n hx hb dX12_type_109 rfl (lv_at hl 3 rfl) ?_
                                                    refine lv_dup hx hb dX12_type_110 rfl ?_
                                                    refine va_get (D := D) (ci := 12) (v := .int (zN p0 2)) (C := RX12) (T := TX12) (N := 25) hx hb ht zinX12 hown hK hP 1 rfl rfl 7 (by decide) (ht _ zw_110) (fun _ h9 => h9) rfl dX12_type_111 ?_
                                                    refine lv_iconst (v := 1) hx hb dX12_type_114 (by decide) ?_
                                                    refine lv_iadd hx hb dX12_type_115 ?_
                                                    refine lv_topi (fun x_58 e_58 => ?_)
                                                    refine va_put (D := D) (ci := 12) (v := .int x_58) (ty := .int) (C := RX12) (T := TX12) (N := 25) hx hb ht zinX12 tyX12 tyX12_ok nmX12 hown hK hP hD hS 1 rfl rfl 7 (by decide) (ht _ zw_110) (fun _ h9 => h9) rfl (by decide +kernel) rfl rfl (Nat.le_of_ble_eq_true rfl) dX12_type_116 (fun H locs hP hD hS => ?_)
                                                    have hP : va_P D vwCl [((a 6), .inl (cI, 200, .inl (upd g_1 (zN p0 2).toNatClampNeg (((((p0).toUInt64 >>> ((40 : Int32).toInt64.toUInt64 &&& Int64.toUInt64 63)).toInt64) &&& 255).toInt32)))), ((a 0), .inr (12, zMo a (upd (upd zI0 0 0) 7 x_58)))] H := hP
                                                    have hD : va_D A [((a 6), .inl (cI, 200, .inl (upd g_1 (zN p0 2).toNatClampNeg (((((p0).toUInt64 >>> ((40 : Int32).toInt64.toUInt64 &&& Int64.toUInt64 63)).toInt64) &&& 255).toInt32)))), ((a 0), .inr (12, zMo a (upd (upd zI0 0 0) 7 x_58)))] := hD
                                                    exact hk_2 _ (upd g_1 (zN p0 2).toNatClampNeg (((((p0).toUInt64 >>> ((40 : Int32).toInt64.toUInt64 &&& Int64.toUInt64 63)).toInt64) &&& 255).toInt32)) _ _ ls (by rw [e_58]; show zN p0 2 + 1 = zN p0 2 + zC p0 40; unfold zC; rw [if_neg (show ¬ zB p0 40 = 0 from fun q => c_57 ((zB_32 _ _).mpr q))]) hP hD hS (lv_sub hl [1, 2, 3, 4] rfl)
                                                  · skip
                                                    refine lv_goto (tgt := 119) hx hb dX12_type_95 (by decide) ?_
                                                    exact hk_2 _ g_1 _ _ ls (by show zN p0 2 = zN p0 2 + zC p0 40; unfold zC; rw [if_pos (show zB p0 40 = 0 from (zB_32 _ _).mp c_57), Int32.add_zero]) hP hD hS (lv_sub hl [1, 2, 3, 4] rfl)
                                              refine lv_lload_n hx hb dX12_type_79 rfl (lv_at hl 3 rfl) ?_
                                              refine lv_iload hx hb dX12_type_80 (lv_at hl 0 rfl) ?_
                                              refine lv_lushr (v := ((p0).toUInt64 >>> ((48 : Int32).toInt64.toUInt64 &&& Int64.toUInt64 63)).toInt64) hx hb dX12_type_82 rfl ?_
                                              refine lv_ldc2 (v := 255) hx hb hown (ht _ zw_142) dX12_type_83 ?_
                                              refine lv_land hx hb dX12_type_86 ?_
                                              refine lv_l2i (v := ((((p0).toUInt64 >>> ((48 : Int32).toInt64.toUInt64 &&& Int64.toUInt64 63)).toInt64) &&& 255).toInt32) hx hb dX12_type_87 rfl ?_
                                              refine lv_istore (lv' := [(5, .int (((((p0).toUInt64 >>> ((48 : Int32).toInt64.toUInt64 &&& Int64.toUInt64 63)).toInt64) &&& 255).toInt32)), (4, .int 48), (3, .int (zN p0 8)), (0, .ref (a 0)), (1, .long p0)]) hx hb dX12_type_88 hl (by decide) rfl (fun ls hl => ?_)
                                              refine lv_iload hx hb dX12_type_90 (lv_at hl 0 rfl) ?_
                                              refine lv_if_ne (tgt := 98) hx hb dX12_type_92 (by decide) (fun c_59 => ?_) (fun c_59 => ?_)
                                              · skip
                                                refine lv_aload_n hx hb dX12_type_98 rfl (lv_at hl 3 rfl) ?_
                                                refine va_get (D := D) (ci := 12) (v := .ref (a 6)) (C := RX12) (T := TX12) (N := 25) hx hb ht zinX12 hown hK hP 1 rfl rfl 6 (by decide) (ht _ zw_143) (fun _ h9 => h9) rfl dX12_type_99 ?_
                                                refine lv_aload_n hx hb dX12_type_102 rfl (lv_at hl 3 rfl) ?_
                                                refine va_get (D := D) (ci := 12) (v := .int (zN p0 1)) (C := RX12) (T := TX12) (N := 25) hx hb ht zinX12 hown hK hP 1 rfl rfl 7 (by decide) (ht _ zw_110) (fun _ h9 => h9) rfl dX12_type_103 ?_
                                                refine lv_iload hx hb dX12_type_106 (lv_at hl 0 rfl) ?_
                                                refine va_iast hx hb hK hP hD hS 0 0 rfl rfl (by have hz := zN_le p0 1 (by decide); exact vp_in_iff.mpr ⟨hz.1, by omega⟩) dX12_type_108 (fun H locs hP hD hS => ?_)
                                                have hP : va_P D vwCl [((a 6), .inl (cI, 200, .inl (upd g_0 (zN p0 1).toNatClampNeg (((((p0).toUInt64 >>> ((48 : Int32).toInt64.toUInt64 &&& Int64.toUInt64 63)).toInt64) &&& 255).toInt32)))), ((a 0), .inr (12, zMo a (upd (upd zI0 0 0) 7 (zN p0 1))))] H := hP
                                                have hD : va_D A [((a 6), .inl (cI, 200, .inl (upd g_0 (zN p0 1).toNatClampNeg (((((p0).toUInt64 >>> ((48 : Int32).toInt64.toUInt64 &&& Int64.toUInt64 63)).toInt64) &&& 255).toInt32)))), ((a 0), .inr (12, zMo a (upd (upd zI0 0 0) 7 (zN p0 1))))] := hD
                                                refine lv_aload_n hx hb dX12_type_109 rfl (lv_at hl 3 rfl) ?_
                                                refine lv_dup hx hb dX12_type_110 rfl ?_
                                                refine va_get (D := D) (ci := 12) (v := .int (zN p0 1)) (C := RX12) (T := TX12) (N := 25) hx hb ht zinX12 hown hK hP 1 rfl rfl 7 (by decide) (ht _ zw_110) (fun _ h9 => h9) rfl dX12_type_111 ?_
                                                refine lv_iconst (v := 1) hx hb dX12_type_114 (by decide) ?_
                                                refine lv_iadd hx hb dX12_type_115 ?_
                                                refine lv_topi (fun x_60 e_60 => ?_)
                                                refine va_put (D := D) (ci := 12) (v := .int x_60) (ty := .int) (C := RX12) (T := TX12) (N := 25) hx hb ht zinX12 tyX12 tyX12_ok nmX12 hown hK hP hD hS 1 rfl rfl 7 (by decide) (ht _ zw_110) (fun _ h9 => h9) rfl (by decide +kernel) rfl rfl (Nat.le_of_ble_eq_true rfl) dX12_type_116 (fun H locs hP hD hS => ?_)
                                                have hP : va_P D vwCl [((a 6), .inl (cI, 200, .inl (upd g_0 (zN p0 1).toNatClampNeg (((((p0).toUInt64 >>> ((48 : Int32).toInt64.toUInt64 &&& Int64.toUInt64 63)).toInt64) &&& 255).toInt32)))), ((a 0), .inr (12, zMo a (upd (upd zI0 0 0) 7 x_60)))] H := hP
                                                have hD : va_D A [((a 6), .inl (cI, 200, .inl (upd g_0 (zN p0 1).toNatClampNeg (((((p0).toUInt64 >>> ((48 : Int32).toInt64.toUInt64 &&& Int64.toUInt64 63)).toInt64) &&& 255).toInt32)))), ((a 0), .inr (12, zMo a (upd (upd zI0 0 0) 7 x_60)))] := hD
                                                exact hk_1 _ (upd g_0 (zN p0 1).toNatClampNeg (((((p0).toUInt64 >>> ((48 : Int32).toInt64.toUInt64 &&& Int64.toUInt64 63)).toInt64) &&& 255).toInt32)) _ _ ls (by rw [e_60]; show zN p0 1 + 1 = zN p0 1 + zC p0 48; unfold zC; rw [if_neg (show ¬ zB p0 48 = 0 from fun q => c_59 ((zB_32 _ _).mpr q))]) hP hD hS (lv_sub hl [1, 2, 3, 4] rfl)
                                              · skip
                                                refine lv_goto (tgt := 119) hx hb dX12_type_95 (by decide) ?_
                                                exact hk_1 _ g_0 _ _ ls (by show zN p0 1 = zN p0 1 + zC p0 48; unfold zC; rw [if_pos (show zB p0 48 = 0 from (zB_32 _ _).mp c_59), Int32.add_zero]) hP hD hS (lv_sub hl [1, 2, 3, 4] rfl)
                                          refine lv_lload_n hx hb dX12_type_79 rfl (lv_at hl 3 rfl) ?_
                                          refine lv_iload hx hb dX12_type_80 (lv_at hl 0 rfl) ?_
                                          refine lv_lushr (v := ((p0).toUInt64 >>> ((56 : Int32).toInt64.toUInt64 &&& Int64.toUInt64 63)).toInt64) hx hb dX12_type_82 rfl ?_
                                          refine lv_ldc2 (v := 255) hx hb hown (ht _ zw_142) dX12_type_83 ?_
                                          refine lv_land hx hb dX12_type_86 ?_
                                          refine lv_l2i (v := ((((p0).toUInt64 >>> ((56 : Int32).toInt64.toUInt64 &&& Int64.toUInt64 63)).toInt64) &&& 255).toInt32) hx hb dX12_type_87 rfl ?_
                                          refine lv_istore (lv' := [(5, .int (((((p0).toUInt64 >>> ((56 : Int32).toInt64.toUInt64 &&& Int64.toUInt64 63)).toInt64) &&& 255).toInt32)), (4, .int 56), (3, .int (zN p0 8)), (0, .ref (a 0)), (1, .long p0)]) hx hb dX12_type_88 hl (by decide) rfl (fun ls hl => ?_)
                                          refine lv_iload hx hb dX12_type_90 (lv_at hl 0 rfl) ?_
                                          refine lv_if_ne (tgt := 98) hx hb dX12_type_92 (by decide) (fun c_61 => ?_) (fun c_61 => ?_)
                                          · skip
                                            refine lv_aload_n hx hb dX12_type_98 rfl (lv_at hl 3 rfl) ?_
                                            refine va_get (D := D) (ci := 12) (v := .ref (a 6)) (C := RX12) (T := TX12) (N := 25) hx hb ht zinX12 hown hK hP 1 rfl rfl 6 (by decide) (ht _ zw_143) (fun _ h9 => h9) rfl dX12_type_99 ?_
                                            refine lv_aload_n hx hb dX12_type_102 rfl (lv_at hl 3 rfl) ?_
                                            refine va_get (D := D) (ci := 12) (v := .int (zN p0 0)) (C := RX12) (T := TX12) (N := 25) hx hb ht zinX12 hown hK hP 1 rfl rfl 7 (by decide) (ht _ zw_110) (fun _ h9 => h9) rfl dX12_type_103 ?_
                                            refine lv_iload hx hb dX12_type_106 (lv_at hl 0 rfl) ?_
                                            refine va_iast hx hb hK hP hD hS 0 0 rfl rfl (by have hz := zN_le p0 0 (by decide); exact vp_in_iff.mpr ⟨hz.1, by omega⟩) dX12_type_108 (fun H locs hP hD hS => ?_)
                                            have hP : va_P D vwCl [((a 6), .inl (cI, 200, .inl (upd zI0 (zN p0 0).toNatClampNeg (((((p0).toUInt64 >>> ((56 : Int32).toInt64.toUInt64 &&& Int64.toUInt64 63)).toInt64) &&& 255).toInt32)))), ((a 0), .inr (12, zMo a (upd (upd zI0 0 0) 7 (zN p0 0))))] H := hP
                                            have hD : va_D A [((a 6), .inl (cI, 200, .inl (upd zI0 (zN p0 0).toNatClampNeg (((((p0).toUInt64 >>> ((56 : Int32).toInt64.toUInt64 &&& Int64.toUInt64 63)).toInt64) &&& 255).toInt32)))), ((a 0), .inr (12, zMo a (upd (upd zI0 0 0) 7 (zN p0 0))))] := hD
                                            refine lv_aload_n hx hb dX12_type_109 rfl (lv_at hl 3 rfl) ?_
                                            refine lv_dup hx hb dX12_type_110 rfl ?_
                                            refine va_get (D := D) (ci := 12) (v := .int (zN p0 0)) (C := RX12) (T := TX12) (N := 25) hx hb ht zinX12 hown hK hP 1 rfl rfl 7 (by decide) (ht _ zw_110) (fun _ h9 => h9) rfl dX12_type_111 ?_
                                            refine lv_iconst (v := 1) hx hb dX12_type_114 (by decide) ?_
                                            refine lv_iadd hx hb dX12_type_115 ?_
                                            refine lv_topi (fun x_62 e_62 => ?_)
                                            refine va_put (D := D) (ci := 12) (v := .int x_62) (ty := .int) (C := RX12) (T := TX12) (N := 25) hx hb ht zinX12 tyX12 tyX12_ok nmX12 hown hK hP hD hS 1 rfl rfl 7 (by decide) (ht _ zw_110) (fun _ h9 => h9) rfl (by decide +kernel) rfl rfl (Nat.le_of_ble_eq_true rfl) dX12_type_116 (fun H locs hP hD hS => ?_)
                                            have hP : va_P D vwCl [((a 6), .inl (cI, 200, .inl (upd zI0 (zN p0 0).toNatClampNeg (((((p0).toUInt64 >>> ((56 : Int32).toInt64.toUInt64 &&& Int64.toUInt64 63)).toInt64) &&& 255).toInt32)))), ((a 0), .inr (12, zMo a (upd (upd zI0 0 0) 7 x_62)))] H := hP
                                            have hD : va_D A [((a 6), .inl (cI, 200, .inl (upd zI0 (zN p0 0).toNatClampNeg (((((p0).toUInt64 >>> ((56 : Int32).toInt64.toUInt64 &&& Int64.toUInt64 63)).toInt64) &&& 255).toInt32)))), ((a 0), .inr (12, zMo a (upd (upd zI0 0 0) 7 x_62)))] := hD
                                            exact hk_0 _ (upd zI0 (zN p0 0).toNatClampNeg (((((p0).toUInt64 >>> ((56 : Int32).toInt64.toUInt64 &&& Int64.toUInt64 63)).toInt64) &&& 255).toInt32)) _ _ ls (by rw [e_62]; show zN p0 0 + 1 = zN p0 0 + zC p0 56; unfold zC; rw [if_neg (show ¬ zB p0 56 = 0 from fun q => c_61 ((zB_32 _ _).mpr q))]) hP hD hS (lv_sub hl [1, 2, 3, 4] rfl)
                                          · skip
                                            refine lv_goto (tgt := 119) hx hb dX12_type_95 (by decide) ?_
                                            exact hk_0 _ zI0 _ _ ls (by show zN p0 0 = zN p0 0 + zC p0 56; unfold zC; rw [if_pos (show zB p0 56 = 0 from (zB_32 _ _).mp c_61), Int32.add_zero]) hP hD hS (lv_sub hl [1, 2, 3, 4] rfl)
                                      · skip
                                        exact absurd c_29 (by decide)
                                  · skip
                                    exact absurd c_25 (by decide)
                                refine lv_iload_n hx hb dX12_type_16 rfl (lv_at hl 1 rfl) ?_
                                refine lv_lload_n hx hb dX12_type_17 rfl (lv_at hl 3 rfl) ?_
                                refine lv_iload hx hb dX12_type_18 (lv_at hl 0 rfl) ?_
                                refine lv_lushr (v := ((p0).toUInt64 >>> ((0 : Int32).toInt64.toUInt64 &&& Int64.toUInt64 63)).toInt64) hx hb dX12_type_20 rfl ?_
                                refine lv_ldc2 (v := 255) hx hb hown (ht _ zw_142) dX12_type_21 ?_
                                refine lv_land hx hb dX12_type_24 ?_
                                refine lv_lconst (v := 0) hx hb dX12_type_25 (by decide) ?_
                                refine W.lcmp hx hb dX12_type_26 ?_
                                refine lv_if_ne (tgt := 34) hx hb dX12_type_27 (by decide) (fun c_63 => ?_) (fun c_63 => ?_)
                                · skip
                                  refine lv_iconst (v := 1) hx hb dX12_type_34 (by decide) ?_
                                  exact hj_7 _ (by unfold zC; rw [if_neg (show ¬ zB p0 0 = 0 from fun q => c_63 ((zcmp0 _).mpr q))])
                                · skip
                                  refine lv_iconst (v := 0) hx hb dX12_type_30 (by decide) ?_
                                  refine lv_goto (tgt := 35) hx hb dX12_type_31 (by decide) ?_
                                  exact hj_7 _ (by unfold zC; rw [if_pos (show zB p0 0 = 0 from (zcmp0 _).mp c_63)])
                            refine lv_iload_n hx hb dX12_type_16 rfl (lv_at hl 1 rfl) ?_
                            refine lv_lload_n hx hb dX12_type_17 rfl (lv_at hl 3 rfl) ?_
                            refine lv_iload hx hb dX12_type_18 (lv_at hl 0 rfl) ?_
                            refine lv_lushr (v := ((p0).toUInt64 >>> ((8 : Int32).toInt64.toUInt64 &&& Int64.toUInt64 63)).toInt64) hx hb dX12_type_20 rfl ?_
                            refine lv_ldc2 (v := 255) hx hb hown (ht _ zw_142) dX12_type_21 ?_
                            refine lv_land hx hb dX12_type_24 ?_
                            refine lv_lconst (v := 0) hx hb dX12_type_25 (by decide) ?_
                            refine W.lcmp hx hb dX12_type_26 ?_
                            refine lv_if_ne (tgt := 34) hx hb dX12_type_27 (by decide) (fun c_64 => ?_) (fun c_64 => ?_)
                            · skip
                              refine lv_iconst (v := 1) hx hb dX12_type_34 (by decide) ?_
                              exact hj_6 _ (by unfold zC; rw [if_neg (show ¬ zB p0 8 = 0 from fun q => c_64 ((zcmp0 _).mpr q))])
                            · skip
                              refine lv_iconst (v := 0) hx hb dX12_type_30 (by decide) ?_
                              refine lv_goto (tgt := 35) hx hb dX12_type_31 (by decide) ?_
                              exact hj_6 _ (by unfold zC; rw [if_pos (show zB p0 8 = 0 from (zcmp0 _).mp c_64)])
                        refine lv_iload_n hx hb dX12_type_16 rfl (lv_at hl 1 rfl) ?_
                        refine lv_lload_n hx hb dX12_type_17 rfl (lv_at hl 3 rfl) ?_
                        refine lv_iload hx hb dX12_type_18 (lv_at hl 0 rfl) ?_
                        refine lv_lushr (v := ((p0).toUInt64 >>> ((16 : Int32).toInt64.toUInt64 &&& Int64.toUInt64 63)).toInt64) hx hb dX12_type_20 rfl ?_
                        refine lv_ldc2 (v := 255) hx hb hown (ht _ zw_142) dX12_type_21 ?_
                        refine lv_land hx hb dX12_type_24 ?_
                        refine lv_lconst (v := 0) hx hb dX12_type_25 (by decide) ?_
                        refine W.lcmp hx hb dX12_type_26 ?_
                        refine lv_if_ne (tgt := 34) hx hb dX12_type_27 (by decide) (fun c_65 => ?_) (fun c_65 => ?_)
                        · skip
                          refine lv_iconst (v := 1) hx hb dX12_type_34 (by decide) ?_
                          exact hj_5 _ (by unfold zC; rw [if_neg (show ¬ zB p0 16 = 0 from fun q => c_65 ((zcmp0 _).mpr q))])
                        · skip
                          refine lv_iconst (v := 0) hx hb dX12_type_30 (by decide) ?_
                          refine lv_goto (tgt := 35) hx hb dX12_type_31 (by decide) ?_
                          exact hj_5 _ (by unfold zC; rw [if_pos (show zB p0 16 = 0 from (zcmp0 _).mp c_65)])
                    refine lv_iload_n hx hb dX12_type_16 rfl (lv_at hl 1 rfl) ?_
                    refine lv_lload_n hx hb dX12_type_17 rfl (lv_at hl 3 rfl) ?_
                    refine lv_iload hx hb dX12_type_18 (lv_at hl 0 rfl) ?_
                    refine lv_lushr (v := ((p0).toUInt64 >>> ((24 : Int32).toInt64.toUInt64 &&& Int64.toUInt64 63)).toInt64) hx hb dX12_type_20 rfl ?_
                    refine lv_ldc2 (v := 255) hx hb hown (ht _ zw_142) dX12_type_21 ?_
                    refine lv_land hx hb dX12_type_24 ?_
                    refine lv_lconst (v := 0) hx hb dX12_type_25 (by decide) ?_
                    refine W.lcmp hx hb dX12_type_26 ?_
                    refine lv_if_ne (tgt := 34) hx hb dX12_type_27 (by decide) (fun c_66 => ?_) (fun c_66 => ?_)
                    · skip
                      refine lv_iconst (v := 1) hx hb dX12_type_34 (by decide) ?_
                      exact hj_4 _ (by unfold zC; rw [if_neg (show ¬ zB p0 24 = 0 from fun q => c_66 ((zcmp0 _).mpr q))])
                    · skip
                      refine lv_iconst (v := 0) hx hb dX12_type_30 (by decide) ?_
                      refine lv_goto (tgt := 35) hx hb dX12_type_31 (by decide) ?_
                      exact hj_4 _ (by unfold zC; rw [if_pos (show zB p0 24 = 0 from (zcmp0 _).mp c_66)])
                refine lv_iload_n hx hb dX12_type_16 rfl (lv_at hl 1 rfl) ?_
                refine lv_lload_n hx hb dX12_type_17 rfl (lv_at hl 3 rfl) ?_
                refine lv_iload hx hb dX12_type_18 (lv_at hl 0 rfl) ?_
                refine lv_lushr (v := ((p0).toUInt64 >>> ((32 : Int32).toInt64.toUInt64 &&& Int64.toUInt64 63)).toInt64) hx hb dX12_type_20 rfl ?_
                refine lv_ldc2 (v := 255) hx hb hown (ht _ zw_142) dX12_type_21 ?_
                refine lv_land hx hb dX12_type_24 ?_
                refine lv_lconst (v := 0) hx hb dX12_type_25 (by decide) ?_
                refine W.lcmp hx hb dX12_type_26 ?_
                refine lv_if_ne (tgt := 34) hx hb dX12_type_27 (by decide) (fun c_67 => ?_) (fun c_67 => ?_)
                · skip
                  refine lv_iconst (v := 1) hx hb dX12_type_34 (by decide) ?_
                  exact hj_3 _ (by unfold zC; rw [if_neg (show ¬ zB p0 32 = 0 from fun q => c_67 ((zcmp0 _).mpr q))])
                · skip
                  refine lv_iconst (v := 0) hx hb dX12_type_30 (by decide) ?_
                  refine lv_goto (tgt := 35) hx hb dX12_type_31 (by decide) ?_
                  exact hj_3 _ (by unfold zC; rw [if_pos (show zB p0 32 = 0 from (zcmp0 _).mp c_67)])
            refine lv_iload_n hx hb dX12_type_16 rfl (lv_at hl 1 rfl) ?_
            refine lv_lload_n hx hb dX12_type_17 rfl (lv_at hl 3 rfl) ?_
            refine lv_iload hx hb dX12_type_18 (lv_at hl 0 rfl) ?_
            refine lv_lushr (v := ((p0).toUInt64 >>> ((40 : Int32).toInt64.toUInt64 &&& Int64.toUInt64 63)).toInt64) hx hb dX12_type_20 rfl ?_
            refine lv_ldc2 (v := 255) hx hb hown (ht _ zw_142) dX12_type_21 ?_
            refine lv_land hx hb dX12_type_24 ?_
            refine lv_lconst (v := 0) hx hb dX12_type_25 (by decide) ?_
            refine W.lcmp hx hb dX12_type_26 ?_
            refine lv_if_ne (tgt := 34) hx hb dX12_type_27 (by decide) (fun c_68 => ?_) (fun c_68 => ?_)
            · skip
              refine lv_iconst (v := 1) hx hb dX12_type_34 (by decide) ?_
              exact hj_2 _ (by unfold zC; rw [if_neg (show ¬ zB p0 40 = 0 from fun q => c_68 ((zcmp0 _).mpr q))])
            · skip
              refine lv_iconst (v := 0) hx hb dX12_type_30 (by decide) ?_
              refine lv_goto (tgt := 35) hx hb dX12_type_31 (by decide) ?_
              exact hj_2 _ (by unfold zC; rw [if_pos (show zB p0 40 = 0 from (zcmp0 _).mp c_68)])
        refine lv_iload_n hx hb dX12_type_16 rfl (lv_at hl 1 rfl) ?_
        refine lv_lload_n hx hb dX12_type_17 rfl (lv_at hl 3 rfl) ?_
        refine lv_iload hx hb dX12_type_18 (lv_at hl 0 rfl) ?_
        refine lv_lushr (v := ((p0).toUInt64 >>> ((48 : Int32).toInt64.toUInt64 &&& Int64.toUInt64 63)).toInt64) hx hb dX12_type_20 rfl ?_
        refine lv_ldc2 (v := 255) hx hb hown (ht _ zw_142) dX12_type_21 ?_
        refine lv_land hx hb dX12_type_24 ?_
        refine lv_lconst (v := 0) hx hb dX12_type_25 (by decide) ?_
        refine W.lcmp hx hb dX12_type_26 ?_
        refine lv_if_ne (tgt := 34) hx hb dX12_type_27 (by decide) (fun c_69 => ?_) (fun c_69 => ?_)
        · skip
          refine lv_iconst (v := 1) hx hb dX12_type_34 (by decide) ?_
          exact hj_1 _ (by unfold zC; rw [if_neg (show ¬ zB p0 48 = 0 from fun q => c_69 ((zcmp0 _).mpr q))])
        · skip
          refine lv_iconst (v := 0) hx hb dX12_type_30 (by decide) ?_
          refine lv_goto (tgt := 35) hx hb dX12_type_31 (by decide) ?_
          exact hj_1 _ (by unfold zC; rw [if_pos (show zB p0 48 = 0 from (zcmp0 _).mp c_69)])
    refine lv_iload_n hx hb dX12_type_16 rfl (lv_at hl 1 rfl) ?_
    refine lv_lload_n hx hb dX12_type_17 rfl (lv_at hl 3 rfl) ?_
    refine lv_iload hx hb dX12_type_18 (lv_at hl 0 rfl) ?_
    refine lv_lushr (v := ((p0).toUInt64 >>> ((56 : Int32).toInt64.toUInt64 &&& Int64.toUInt64 63)).toInt64) hx hb dX12_type_20 rfl ?_
    refine lv_ldc2 (v := 255) hx hb hown (ht _ zw_142) dX12_type_21 ?_
    refine lv_land hx hb dX12_type_24 ?_
    refine lv_lconst (v := 0) hx hb dX12_type_25 (by decide) ?_
    refine W.lcmp hx hb dX12_type_26 ?_
    refine lv_if_ne (tgt := 34) hx hb dX12_type_27 (by decide) (fun c_70 => ?_) (fun c_70 => ?_)
    · skip
      refine lv_iconst (v := 1) hx hb dX12_type_34 (by decide) ?_
      exact hj_0 _ (by unfold zC; rw [if_neg (show ¬ zB p0 56 = 0 from fun q => c_70 ((zcmp0 _).mpr q))])
    · skip
      refine lv_iconst (v := 0) hx hb dX12_type_30 (by decide) ?_
      refine lv_goto (tgt := 35) hx hb dX12_type_31 (by decide) ?_
      exact hj_0 _ (by unfold zC; rw [if_pos (show zB p0 56 = 0 from (zcmp0 _).mp c_70)])
set_option maxHeartbeats 4000000 in
set_option maxRecDepth 100000 in
theorem k_X12_init (l : Launch) (sz : Nat) (D : va_G) (b : Nat) : Met l yX12_init (.code yX12_init cX12_init 1 none :: zT) ({ frames := 1, cells := 1028, slots := 122354, locals := 12 }) (va_Pc [.ref b] (zX (va_AOA .int) D [(b, .inr (12, [.int 0, .null, .null, .null, .null, .int 0, .null, .int 0, .int 0, .int 0, .null, .null, .int 0, .null, .int 0, .int 0, .int 0, .int 0, .null, .null, .null, .null, .null, .int 0, .int 0]))] [] sz)) (va_Qv (fun (_ : Unit) => True) (fun _ t => ∃ (a : Nat → Nat) (cI cJ cZ : ClassId) (fa fb : Nat → Option Nat), a 0 = b ∧ fa 0 = some (a 30) ∧ fb 0 = some (a 31) ∧ fb 1 = some (a 32) ∧ zE D [(a 0, .inr (12, zMo a zI0)), (a 1, .inl (cI, 6792, .inl zI0)), (a 2, .inl (cJ, 8, .inr (.inr (.inr (.inr fa))))), (a 30, .inl (cI, 6792, .inl zI0)), (a 3, .inl (cJ, 2, .inr (.inr (.inr (.inr fb))))), (a 31, .inl (cI, 6792, .inl zI0)), (a 32, .inl (cI, 6792, .inl zI0)), (a 4, .inl (cZ, 2, .inl zI0)), (a 6, .inl (cI, 200, .inl zI0)), (a 10, .inl (cI, 41, .inl zI0))] [(cI, .int), (cJ, .array .int), (cZ, .boolean)] (va_A [(b, .inr (12, [.int 0, .null, .null, .null, .null, .int 0, .null, .int 0, .int 0, .int 0, .null, .null, .int 0, .null, .int 0, .int 0, .int 0, .int 0, .null, .null, .null, .null, .null, .int 0, .int 0]))] sz) t) (va_A [(b, .inr (12, [.int 0, .null, .null, .null, .null, .int 0, .null, .int 0, .int 0, .int 0, .null, .null, .int 0, .null, .int 0, .int 0, .int 0, .int 0, .null, .null, .null, .null, .null, .int 0, .int 0]))] sz)) 1028 122354 (va_A [(b, .inr (12, [.int 0, .null, .null, .null, .null, .int 0, .null, .int 0, .int 0, .int 0, .null, .null, .int 0, .null, .int 0, .int 0, .int 0, .int 0, .null, .null, .null, .null, .null, .int 0, .int 0]))] sz) := by
  refine Met.ofW (cc := cX12_init) (maxL := 1) (ret := none) (by decide) rfl ?_
  intro p e s m args below meth c s₁ B hml hv
  obtain ⟨rfl, hX, hsz, hP, hK, hD0⟩ := hv
  have hx := B.exec
  have hb := B.bytes
  have hr := B.returns
  have hts := atoms_spec (ws := (.code yX12_init cX12_init 1 none :: zT)) B.pre
  have ht : ∀ w ∈ zT, w.before _ s = true := fun w h => hts w (List.mem_cons_of_mem _ h)
  have hown : s.vm.findClass RX12 = some m.cls := findClass_of_methodNamed B.named
  have hlocks := B.notSynchronized
  have hin : meth.name = "<init>" := (name_of_methodNamed B.named B.method).1
  subst hsz
  have hD := hD0.self (sz := s.heap.size)
  generalize hAe : va_A [(b, .inr (12, [.int 0, .null, .null, .null, .null, .int 0, .null, .int 0, .int 0, .int 0, .null, .null, .int 0, .null, .int 0, .int 0, .int 0, .int 0, .null, .null, .null, .null, .null, .int 0, .int 0]))] s.heap.size = A at hD ⊢
  have hA : ∀ q : Nat, s.heap.size ≤ q → A q := fun q h => by rw [← hAe]; exact Or.inr h
  have hS : va_S A s.heap s.heap [] := va_S.rf
  have hP : va_P D vwCl [(b, .inr (12, [.int 0, .null, .null, .null, .null, .int 0, .null, .int 0, .int 0, .int 0, .null, .null, .int 0, .null, .int 0, .int 0, .int 0, .int 0, .null, .null, .null, .null, .null, .int 0, .int 0]))] s.heap := hP
  have hl := lv_entry ([.ref b]) (n := 1) (Nat.le_of_ble_eq_true rfl)
  rw [lg_entry_eq]
  generalize (lg_sl ([.ref b]) ++ List.replicate (1 - (lg_sl ([.ref b])).length) Slot.unset).toArray = ls at hl ⊢
  have hl : lv_has ls 1 [(0, .ref b)] := hl
  skip
  refine lv_aload_n hx hb dX12_init_0 rfl (lv_at hl 0 rfl) ?_
  refine W.objInit hx hb hown (ht _ zw_144) (ht _ zw_145) (ht _ zw_146) rfl (by rw [hml]; exact hl.1) rfl dX12_init_1 (Nat.le_of_ble_eq_true rfl) (Nat.le_of_ble_eq_true rfl) ?_
  refine W.eq (g2 := F0 m 4 ls []) rfl ?_
  refine lv_aload_n hx hb dX12_init_4 rfl (lv_at hl 0 rfl) ?_
  refine lv_sipush (v := 6792) hx hb dX12_init_5 (by decide) ?_
  refine va_newa (atype := .int) (a0 := (6792, .inl (fun _ => 0))) hx hb (ht _ zw_108) rfl hK hP hD hS hA (fun _ => rfl) (by decide) rfl (Nat.le_of_ble_eq_true rfl) (Nat.le_of_ble_eq_true rfl) (Nat.le_of_ble_eq_true rfl) dX12_init_8 (fun q_1 cA_1 H hK hP hD hS => ?_)
  have hP : va_P D vwCl [(b, .inr (12, [.int 0, .null, .null, .null, .null, .int 0, .null, .int 0, .int 0, .int 0, .null, .null, .int 0, .null, .int 0, .int 0, .int 0, .int 0, .null, .null, .null, .null, .null, .int 0, .int 0])), (q_1, .inl (cA_1, 6792, .inl (fun _ => 0)))] H := hP
  have hD : va_D A [(b, .inr (12, [.int 0, .null, .null, .null, .null, .int 0, .null, .int 0, .int 0, .int 0, .null, .null, .int 0, .null, .int 0, .int 0, .int 0, .int 0, .null, .null, .null, .null, .null, .int 0, .int 0])), (q_1, .inl (cA_1, 6792, .inl (fun _ => 0)))] := hD
  have hK : va_K D vwCl [(cA_1, .int)] s := hK
  refine W.widen (k := 1) (n := 6792) (Nat.le_of_ble_eq_true rfl) (Nat.le_of_ble_eq_true rfl) ?_
  refine va_putF (D := D) (ci := 12) (v := .ref q_1) (ty := .array .int) (C := RX12) (T := TX12) (N := 25) hx hb ht zinX12 tyX12 tyX12_ok nmX12 hown hK hP hD hS 0 rfl rfl 1 (by decide) (ht _ zw_34) (fun _ h9 => h9) rfl hin rfl (by decide +kernel) rfl rfl (Nat.le_of_ble_eq_true rfl) dX12_init_10 (fun H locs hP hD hS => ?_)
  have hP : va_P D vwCl [(b, .inr (12, [.int 0, .ref q_1, .null, .null, .null, .int 0, .null, .int 0, .int 0, .int 0, .null, .null, .int 0, .null, .int 0, .int 0, .int 0, .int 0, .null, .null, .null, .null, .null, .int 0, .int 0])), (q_1, .inl (cA_1, 6792, .inl (fun _ => 0)))] H := hP
  have hD : va_D A [(b, .inr (12, [.int 0, .ref q_1, .null, .null, .null, .int 0, .null, .int 0, .int 0, .int 0, .null, .null, .int 0, .null, .int 0, .int 0, .int 0, .int 0, .null, .null, .null, .null, .null, .int 0, .int 0])), (q_1, .inl (cA_1, 6792, .inl (fun _ => 0)))] := hD
  refine lv_aload_n hx hb dX12_init_13 rfl (lv_at hl 0 rfl) ?_
  refine lv_bipush (v := 8) hx hb dX12_init_14 (by decide) ?_
  refine lv_sipush (v := 6792) hx hb dX12_init_16 (by decide) ?_
  refine va_mna (X := [(b, .inr (12, [.int 0, .ref q_1, .null, .null, .null, .int 0, .null, .int 0, .int 0, .int 0, .null, .null, .int 0, .null, .int 0, .int 0, .int 0, .int 0, .null, .null, .null, .null, .null, .int 0, .int 0])), (q_1, .inl (cA_1, 6792, .inl (fun _ => 0)))]) (L := []) (f := ((fun _ => .inr (0, [])) : Nat → va_E)) (z := (6792, .inl (fun _ => 0))) (cy := cA_1) hx hb hown (ht _ zw_147) hX (ht _ zw_108) (za_ra (hK.2 0 _ rfl).2) hK hP hD hS hA (by decide) (by decide) rfl rfl (Nat.le_of_ble_eq_true rfl) (Nat.le_of_ble_eq_true rfl) (Nat.le_of_ble_eq_true rfl) (by decide) (by decide) (Nat.le_of_ble_eq_true rfl) (Nat.le_of_ble_eq_true rfl) (fun c => arrV_new c 6792 _) dX12_init_19 (fun q_2 r_2 cA_2 H hri hrn hK hP hD hS => ?_)
  have hv : ∀ i : Nat, i < 8 → vr_up ((fun _ => .inr (0, [])) : Nat → va_E) ((List.range 8).map r_2) ((.inl (cA_1, 6792, .inl (fun _ => 0))) : va_E) (r_2 i) = ((.inl (cA_1, 6792, .inl (fun _ => 0))) : va_E) := fun i h => vr_up_in (List.mem_map.mpr ⟨i, List.mem_range.mpr h, rfl⟩)
  have hP' := hP.sub (ws' := [(b, .inr (12, [.int 0, .ref q_1, .null, .null, .null, .int 0, .null, .int 0, .int 0, .int 0, .null, .null, .int 0, .null, .int 0, .int 0, .int 0, .int 0, .null, .null, .null, .null, .null, .int 0, .int 0])), (q_1, .inl (cA_1, 6792, .inl (fun _ => 0))), (q_2, .inl (cA_2, 8, .inr (.inr (.inr (.inr (fun i => if i < 8 then some (r_2 i) else none)))))), (r_2 0, vr_up ((fun _ => .inr (0, [])) : Nat → va_E) ((List.range 8).map r_2) ((.inl (cA_1, 6792, .inl (fun _ => 0))) : va_E) (r_2 0))]) [0, 1, 2, 3] rfl
  have hD' := hD.sub (ws' := [(b, .inr (12, [.int 0, .ref q_1, .null, .null, .null, .int 0, .null, .int 0, .int 0, .int 0, .null, .null, .int 0, .null, .int 0, .int 0, .int 0, .int 0, .null, .null, .null, .null, .null, .int 0, .int 0])), (q_1, .inl (cA_1, 6792, .inl (fun _ => 0))), (q_2, .inl (cA_2, 8, .inr (.inr (.inr (.inr (fun i => if i < 8 then some (r_2 i) else none)))))), (r_2 0, vr_up ((fun _ => .inr (0, [])) : Nat → va_E) ((List.range 8).map r_2) ((.inl (cA_1, 6792, .inl (fun _ => 0))) : va_E) (r_2 0))]) [0, 1, 2, 3] (by decide) rfl
  rw [hv 0 (by decide)] at hP' hD'
  have hP := hP'
  have hD := hD'
  have hP : va_P D vwCl [(b, .inr (12, [.int 0, .ref q_1, .null, .null, .null, .int 0, .null, .int 0, .int 0, .int 0, .null, .null, .int 0, .null, .int 0, .int 0, .int 0, .int 0, .null, .null, .null, .null, .null, .int 0, .int 0])), (q_1, .inl (cA_1, 6792, .inl (fun _ => 0))), (q_2, .inl (cA_2, 8, .inr (.inr (.inr (.inr (fun i => if i < 8 then some (r_2 i) else none)))))), ((r_2 0), .inl (cA_1, 6792, .inl (fun _ => 0)))] H := hP
  have hD : va_D A [(b, .inr (12, [.int 0, .ref q_1, .null, .null, .null, .int 0, .null, .int 0, .int 0, .int 0, .null, .null, .int 0, .null, .int 0, .int 0, .int 0, .int 0, .null, .null, .null, .null, .null, .int 0, .int 0])), (q_1, .inl (cA_1, 6792, .inl (fun _ => 0))), (q_2, .inl (cA_2, 8, .inr (.inr (.inr (.inr (fun i => if i < 8 then some (r_2 i) else none)))))), ((r_2 0), .inl (cA_1, 6792, .inl (fun _ => 0)))] := hD
  have hK : va_K D vwCl [(cA_1, .int), (cA_2, .array .int)] s := hK
  refine W.widen (k := 10) (n := 61136) (Nat.le_of_ble_eq_true rfl) (Nat.le_of_ble_eq_true rfl) ?_
  refine va_putF (D := D) (ci := 12) (v := .ref q_2) (ty := .array (.array .int)) (C := RX12) (T := TX12) (N := 25) hx hb ht zinX12 tyX12 tyX12_ok nmX12 hown hK hP hD hS 0 rfl rfl 2 (by decide) (ht _ zw_94) (fun _ h9 => h9) rfl hin rfl (by decide +kernel) rfl rfl (Nat.le_of_ble_eq_true rfl) dX12_init_23 (fun H locs hP hD hS => ?_)
  have hP : va_P D vwCl [(b, .inr (12, [.int 0, .ref q_1, .ref q_2, .null, .null, .int 0, .null, .int 0, .int 0, .int 0, .null, .null, .int 0, .null, .int 0, .int 0, .int 0, .int 0, .null, .null, .null, .null, .null, .int 0, .int 0])), (q_1, .inl (cA_1, 6792, .inl (fun _ => 0))), (q_2, .inl (cA_2, 8, .inr (.inr (.inr (.inr (fun i => if i < 8 then some (r_2 i) else none)))))), ((r_2 0), .inl (cA_1, 6792, .inl (fun _ => 0)))] H := hP
  have hD : va_D A [(b, .inr (12, [.int 0, .ref q_1, .ref q_2, .null, .null, .int 0, .null, .int 0, .int 0, .int 0, .null, .null, .int 0, .null, .int 0, .int 0, .int 0, .int 0, .null, .null, .null, .null, .null, .int 0, .int 0])), (q_1, .inl (cA_1, 6792, .inl (fun _ => 0))), (q_2, .inl (cA_2, 8, .inr (.inr (.inr (.inr (fun i => if i < 8 then some (r_2 i) else none)))))), ((r_2 0), .inl (cA_1, 6792, .inl (fun _ => 0)))] := hD
  refine lv_aload_n hx hb dX12_init_26 rfl (lv_at hl 0 rfl) ?_
  refine lv_iconst (v := 2) hx hb dX12_init_27 (by decide) ?_
  refine lv_sipush (v := 6792) hx hb dX12_init_28 (by decide) ?_
  refine va_mna (X := [(b, .inr (12, [.int 0, .ref q_1, .ref q_2, .null, .null, .int 0, .null, .int 0, .int 0, .int 0, .null, .null, .int 0, .null, .int 0, .int 0, .int 0, .int 0, .null, .null, .null, .null, .null, .int 0, .int 0])), (q_1, .inl (cA_1, 6792, .inl (fun _ => 0))), (q_2, .inl (cA_2, 8, .inr (.inr (.inr (.inr (fun i => if i < 8 then some (r_2 i) else none)))))), ((r_2 0), .inl (cA_1, 6792, .inl (fun _ => 0)))]) (L := []) (f := ((fun _ => .inr (0, [])) : Nat → va_E)) (z := (6792, .inl (fun _ => 0))) (cy := cA_1) hx hb hown (ht _ zw_147) hX (ht _ zw_108) (za_ra (hK.2 0 _ rfl).2) hK hP hD hS hA (by decide) (by decide) rfl rfl (Nat.le_of_ble_eq_true rfl) (Nat.le_of_ble_eq_true rfl) (Nat.le_of_ble_eq_true rfl) (by decide) (by decide) (Nat.le_of_ble_eq_true rfl) (Nat.le_of_ble_eq_true rfl) (fun c => arrV_new c 6792 _) dX12_init_31 (fun q_3 r_3 cA_3 H hri hrn hK hP hD hS => ?_)
  have hv : ∀ i : Nat, i < 2 → vr_up ((fun _ => .inr (0, [])) : Nat → va_E) ((List.range 2).map r_3) ((.inl (cA_1, 6792, .inl (fun _ => 0))) : va_E) (r_3 i) = ((.inl (cA_1, 6792, .inl (fun _ => 0))) : va_E) := fun i h => vr_up_in (List.mem_map.mpr ⟨i, List.mem_range.mpr h, rfl⟩)
  have hP' := hP.sub (ws' := [(b, .inr (12, [.int 0, .ref q_1, .ref q_2, .null, .null, .int 0, .null, .int 0, .int 0, .int 0, .null, .null, .int 0, .null, .int 0, .int 0, .int 0, .int 0, .null, .null, .null, .null, .null, .int 0, .int 0])), (q_1, .inl (cA_1, 6792, .inl (fun _ => 0))), (q_2, .inl (cA_2, 8, .inr (.inr (.inr (.inr (fun i => if i < 8 then some (r_2 i) else none)))))), ((r_2 0), .inl (cA_1, 6792, .inl (fun _ => 0))), (q_3, .inl (cA_3, 2, .inr (.inr (.inr (.inr (fun i => if i < 2 then some (r_3 i) else none)))))), (r_3 0, vr_up ((fun _ => .inr (0, [])) : Nat → va_E) ((List.range 2).map r_3) ((.inl (cA_1, 6792, .inl (fun _ => 0))) : va_E) (r_3 0)), (r_3 1, vr_up ((fun _ => .inr (0, [])) : Nat → va_E) ((List.range 2).map r_3) ((.inl (cA_1, 6792, .inl (fun _ => 0))) : va_E) (r_3 1))]) [0, 1, 2, 3, 4, 5, 6] rfl
  have hD' := hD.sub (ws' := [(b, .inr (12, [.int 0, .ref q_1, .ref q_2, .null, .null, .int 0, .null, .int 0, .int 0, .int 0, .null, .null, .int 0, .null, .int 0, .int 0, .int 0, .int 0, .null, .null, .null, .null, .null, .int 0, .int 0])), (q_1, .inl (cA_1, 6792, .inl (fun _ => 0))), (q_2, .inl (cA_2, 8, .inr (.inr (.inr (.inr (fun i => if i < 8 then some (r_2 i) else none)))))), ((r_2 0), .inl (cA_1, 6792, .inl (fun _ => 0))), (q_3, .inl (cA_3, 2, .inr (.inr (.inr (.inr (fun i => if i < 2 then some (r_3 i) else none)))))), (r_3 0, vr_up ((fun _ => .inr (0, [])) : Nat → va_E) ((List.range 2).map r_3) ((.inl (cA_1, 6792, .inl (fun _ => 0))) : va_E) (r_3 0)), (r_3 1, vr_up ((fun _ => .inr (0, [])) : Nat → va_E) ((List.range 2).map r_3) ((.inl (cA_1, 6792, .inl (fun _ => 0))) : va_E) (r_3 1))]) [0, 1, 2, 3, 4, 5, 6] (by decide) rfl
  rw [hv 0 (by decide), hv 1 (by decide)] at hP' hD'
  have hP := hP'
  have hD := hD'
  have hcc : cA_2 = cA_3 := za_same hK 1 2 rfl rfl
  subst hcc
  have hK := hK.sub (tys' := [(cA_1, .int), (cA_2, .array .int)]) [0, 1] rfl
  have hP : va_P D vwCl [(b, .inr (12, [.int 0, .ref q_1, .ref q_2, .null, .null, .int 0, .null, .int 0, .int 0, .int 0, .null, .null, .int 0, .null, .int 0, .int 0, .int 0, .int 0, .null, .null, .null, .null, .null, .int 0, .int 0])), (q_1, .inl (cA_1, 6792, .inl (fun _ => 0))), (q_2, .inl (cA_2, 8, .inr (.inr (.inr (.inr (fun i => if i < 8 then some (r_2 i) else none)))))), ((r_2 0), .inl (cA_1, 6792, .inl (fun _ => 0))), (q_3, .inl (cA_2, 2, .inr (.inr (.inr (.inr (fun i => if i < 2 then some (r_3 i) else none)))))), ((r_3 0), .inl (cA_1, 6792, .inl (fun _ => 0))), ((r_3 1), .inl (cA_1, 6792, .inl (fun _ => 0)))] H := hP
  have hD : va_D A [(b, .inr (12, [.int 0, .ref q_1, .ref q_2, .null, .null, .int 0, .null, .int 0, .int 0, .int 0, .null, .null, .int 0, .null, .int 0, .int 0, .int 0, .int 0, .null, .null, .null, .null, .null, .int 0, .int 0])), (q_1, .inl (cA_1, 6792, .inl (fun _ => 0))), (q_2, .inl (cA_2, 8, .inr (.inr (.inr (.inr (fun i => if i < 8 then some (r_2 i) else none)))))), ((r_2 0), .inl (cA_1, 6792, .inl (fun _ => 0))), (q_3, .inl (cA_2, 2, .inr (.inr (.inr (.inr (fun i => if i < 2 then some (r_3 i) else none)))))), ((r_3 0), .inl (cA_1, 6792, .inl (fun _ => 0))), ((r_3 1), .inl (cA_1, 6792, .inl (fun _ => 0)))] := hD
  have hK : va_K D vwCl [(cA_1, .int), (cA_2, .array .int)] s := hK
  refine W.widen (k := 13) (n := 74722) (Nat.le_of_ble_eq_true rfl) (Nat.le_of_ble_eq_true rfl) ?_
  refine va_putF (D := D) (ci := 12) (v := .ref q_3) (ty := .array (.array .int)) (C := RX12) (T := TX12) (N := 25) hx hb ht zinX12 tyX12 tyX12_ok nmX12 hown hK hP hD hS 0 rfl rfl 3 (by decide) (ht _ zw_132) (fun _ h9 => h9) rfl hin rfl (by decide +kernel) rfl rfl (Nat.le_of_ble_eq_true rfl) dX12_init_35 (fun H locs hP hD hS => ?_)
  have hP : va_P D vwCl [(b, .inr (12, [.int 0, .ref q_1, .ref q_2, .ref q_3, .null, .int 0, .null, .int 0, .int 0, .int 0, .null, .null, .int 0, .null, .int 0, .int 0, .int 0, .int 0, .null, .null, .null, .null, .null, .int 0, .int 0])), (q_1, .inl (cA_1, 6792, .inl (fun _ => 0))), (q_2, .inl (cA_2, 8, .inr (.inr (.inr (.inr (fun i => if i < 8 then some (r_2 i) else none)))))), ((r_2 0), .inl (cA_1, 6792, .inl (fun _ => 0))), (q_3, .inl (cA_2, 2, .inr (.inr (.inr (.inr (fun i => if i < 2 then some (r_3 i) else none)))))), ((r_3 0), .inl (cA_1, 6792, .inl (fun _ => 0))), ((r_3 1), .inl (cA_1, 6792, .inl (fun _ => 0)))] H := hP
  have hD : va_D A [(b, .inr (12, [.int 0, .ref q_1, .ref q_2, .ref q_3, .null, .int 0, .null, .int 0, .int 0, .int 0, .null, .null, .int 0, .null, .int 0, .int 0, .int 0, .int 0, .null, .null, .null, .null, .null, .int 0, .int 0])), (q_1, .inl (cA_1, 6792, .inl (fun _ => 0))), (q_2, .inl (cA_2, 8, .inr (.inr (.inr (.inr (fun i => if i < 8 then some (r_2 i) else none)))))), ((r_2 0), .inl (cA_1, 6792, .inl (fun _ => 0))), (q_3, .inl (cA_2, 2, .inr (.inr (.inr (.inr (fun i => if i < 2 then some (r_3 i) else none)))))), ((r_3 0), .inl (cA_1, 6792, .inl (fun _ => 0))), ((r_3 1), .inl (cA_1, 6792, .inl (fun _ => 0)))] := hD
  refine lv_aload_n hx hb dX12_init_38 rfl (lv_at hl 0 rfl) ?_
  refine lv_iconst (v := 2) hx hb dX12_init_39 (by decide) ?_
  refine va_newa (atype := .boolean) (a0 := (2, .inl (fun _ => 0))) hx hb (ht _ zw_137) rfl hK hP hD hS hA (fun _ => rfl) (by decide) rfl (Nat.le_of_ble_eq_true rfl) (Nat.le_of_ble_eq_true rfl) (Nat.le_of_ble_eq_true rfl) dX12_init_40 (fun q_4 cA_4 H hK hP hD hS => ?_)
  have hP : va_P D vwCl [(b, .inr (12, [.int 0, .ref q_1, .ref q_2, .ref q_3, .null, .int 0, .null, .int 0, .int 0, .int 0, .null, .null, .int 0, .null, .int 0, .int 0, .int 0, .int 0, .null, .null, .null, .null, .null, .int 0, .int 0])), (q_1, .inl (cA_1, 6792, .inl (fun _ => 0))), (q_2, .inl (cA_2, 8, .inr (.inr (.inr (.inr (fun i => if i < 8 then some (r_2 i) else none)))))), ((r_2 0), .inl (cA_1, 6792, .inl (fun _ => 0))), (q_3, .inl (cA_2, 2, .inr (.inr (.inr (.inr (fun i => if i < 2 then some (r_3 i) else none)))))), ((r_3 0), .inl (cA_1, 6792, .inl (fun _ => 0))), ((r_3 1), .inl (cA_1, 6792, .inl (fun _ => 0))), (q_4, .inl (cA_4, 2, .inl (fun _ => 0)))] H := hP
  have hD : va_D A [(b, .inr (12, [.int 0, .ref q_1, .ref q_2, .ref q_3, .null, .int 0, .null, .int 0, .int 0, .int 0, .null, .null, .int 0, .null, .int 0, .int 0, .int 0, .int 0, .null, .null, .null, .null, .null, .int 0, .int 0])), (q_1, .inl (cA_1, 6792, .inl (fun _ => 0))), (q_2, .inl (cA_2, 8, .inr (.inr (.inr (.inr (fun i => if i < 8 then some (r_2 i) else none)))))), ((r_2 0), .inl (cA_1, 6792, .inl (fun _ => 0))), (q_3, .inl (cA_2, 2, .inr (.inr (.inr (.inr (fun i => if i < 2 then some (r_3 i) else none)))))), ((r_3 0), .inl (cA_1, 6792, .inl (fun _ => 0))), ((r_3 1), .inl (cA_1, 6792, .inl (fun _ => 0))), (q_4, .inl (cA_4, 2, .inl (fun _ => 0)))] := hD
  have hK : va_K D vwCl [(cA_1, .int), (cA_2, .array .int), (cA_4, .boolean)] s := hK
  refine W.widen (k := 14) (n := 74724) (Nat.le_of_ble_eq_true rfl) (Nat.le_of_ble_eq_true rfl) ?_
  refine va_putF (D := D) (ci := 12) (v := .ref q_4) (ty := .array .boolean) (C := RX12) (T := TX12) (N := 25) hx hb ht zinX12 tyX12 tyX12_ok nmX12 hown hK hP hD hS 0 rfl rfl 4 (by decide) (ht _ zw_103) (fun _ h9 => h9) rfl hin rfl (by decide +kernel) rfl rfl (Nat.le_of_ble_eq_true rfl) dX12_init_42 (fun H locs hP hD hS => ?_)
  have hP : va_P D vwCl [(b, .inr (12, [.int 0, .ref q_1, .ref q_2, .ref q_3, .ref q_4, .int 0, .null, .int 0, .int 0, .int 0, .null, .null, .int 0, .null, .int 0, .int 0, .int 0, .int 0, .null, .null, .null, .null, .null, .int 0, .int 0])), (q_1, .inl (cA_1, 6792, .inl (fun _ => 0))), (q_2, .inl (cA_2, 8, .inr (.inr (.inr (.inr (fun i => if i < 8 then some (r_2 i) else none)))))), ((r_2 0), .inl (cA_1, 6792, .inl (fun _ => 0))), (q_3, .inl (cA_2, 2, .inr (.inr (.inr (.inr (fun i => if i < 2 then some (r_3 i) else none)))))), ((r_3 0), .inl (cA_1, 6792, .inl (fun _ => 0))), ((r_3 1), .inl (cA_1, 6792, .inl (fun _ => 0))), (q_4, .inl (cA_4, 2, .inl (fun _ => 0)))] H := hP
  have hD : va_D A [(b, .inr (12, [.int 0, .ref q_1, .ref q_2, .ref q_3, .ref q_4, .int 0, .null, .int 0, .int 0, .int 0, .null, .null, .int 0, .null, .int 0, .int 0, .int 0, .int 0, .null, .null, .null, .null, .null, .int 0, .int 0])), (q_1, .inl (cA_1, 6792, .inl (fun _ => 0))), (q_2, .inl (cA_2, 8, .inr (.inr (.inr (.inr (fun i => if i < 8 then some (r_2 i) else none)))))), ((r_2 0), .inl (cA_1, 6792, .inl (fun _ => 0))), (q_3, .inl (cA_2, 2, .inr (.inr (.inr (.inr (fun i => if i < 2 then some (r_3 i) else none)))))), ((r_3 0), .inl (cA_1, 6792, .inl (fun _ => 0))), ((r_3 1), .inl (cA_1, 6792, .inl (fun _ => 0))), (q_4, .inl (cA_4, 2, .inl (fun _ => 0)))] := hD
  refine lv_aload_n hx hb dX12_init_45 rfl (lv_at hl 0 rfl) ?_
  refine lv_sipush (v := 200) hx hb dX12_init_46 (by decide) ?_
  refine va_newa (atype := .int) (a0 := (200, .inl (fun _ => 0))) hx hb (ht _ zw_108) rfl hK hP hD hS hA (fun _ => rfl) (by decide) rfl (Nat.le_of_ble_eq_true rfl) (Nat.le_of_ble_eq_true rfl) (Nat.le_of_ble_eq_true rfl) dX12_init_49 (fun q_5 cA_5 H hK hP hD hS => ?_)
  have hcc : cA_1 = cA_5 := za_same hK 0 3 rfl rfl
  subst hcc
  have hK := hK.sub (tys' := [(cA_1, .int), (cA_2, .array .int), (cA_4, .boolean)]) [0, 1, 2] rfl
  have hP : va_P D vwCl [(b, .inr (12, [.int 0, .ref q_1, .ref q_2, .ref q_3, .ref q_4, .int 0, .null, .int 0, .int 0, .int 0, .null, .null, .int 0, .null, .int 0, .int 0, .int 0, .int 0, .null, .null, .null, .null, .null, .int 0, .int 0])), (q_1, .inl (cA_1, 6792, .inl (fun _ => 0))), (q_2, .inl (cA_2, 8, .inr (.inr (.inr (.inr (fun i => if i < 8 then some (r_2 i) else none)))))), ((r_2 0), .inl (cA_1, 6792, .inl (fun _ => 0))), (q_3, .inl (cA_2, 2, .inr (.inr (.inr (.inr (fun i => if i < 2 then some (r_3 i) else none)))))), ((r_3 0), .inl (cA_1, 6792, .inl (fun _ => 0))), ((r_3 1), .inl (cA_1, 6792, .inl (fun _ => 0))), (q_4, .inl (cA_4, 2, .inl (fun _ => 0))), (q_5, .inl (cA_1, 200, .inl (fun _ => 0)))] H := hP
  have hD : va_D A [(b, .inr (12, [.int 0, .ref q_1, .ref q_2, .ref q_3, .ref q_4, .int 0, .null, .int 0, .int 0, .int 0, .null, .null, .int 0, .null, .int 0, .int 0, .int 0, .int 0, .null, .null, .null, .null, .null, .int 0, .int 0])), (q_1, .inl (cA_1, 6792, .inl (fun _ => 0))), (q_2, .inl (cA_2, 8, .inr (.inr (.inr (.inr (fun i => if i < 8 then some (r_2 i) else none)))))), ((r_2 0), .inl (cA_1, 6792, .inl (fun _ => 0))), (q_3, .inl (cA_2, 2, .inr (.inr (.inr (.inr (fun i => if i < 2 then some (r_3 i) else none)))))), ((r_3 0), .inl (cA_1, 6792, .inl (fun _ => 0))), ((r_3 1), .inl (cA_1, 6792, .inl (fun _ => 0))), (q_4, .inl (cA_4, 2, .inl (fun _ => 0))), (q_5, .inl (cA_1, 200, .inl (fun _ => 0)))] := hD
  have hK : va_K D vwCl [(cA_1, .int), (cA_2, .array .int), (cA_4, .boolean)] s := hK
  refine W.widen (k := 15) (n := 74924) (Nat.le_of_ble_eq_true rfl) (Nat.le_of_ble_eq_true rfl) ?_
  refine va_putF (D := D) (ci := 12) (v := .ref q_5) (ty := .array .int) (C := RX12) (T := TX12) (N := 25) hx hb ht zinX12 tyX12 tyX12_ok nmX12 hown hK hP hD hS 0 rfl rfl 6 (by decide) (ht _ zw_143) (fun _ h9 => h9) rfl hin rfl (by decide +kernel) rfl rfl (Nat.le_of_ble_eq_true rfl) dX12_init_51 (fun H locs hP hD hS => ?_)
  have hP : va_P D vwCl [(b, .inr (12, [.int 0, .ref q_1, .ref q_2, .ref q_3, .ref q_4, .int 0, .ref q_5, .int 0, .int 0, .int 0, .null, .null, .int 0, .null, .int 0, .int 0, .int 0, .int 0, .null, .null, .null, .null, .null, .int 0, .int 0])), (q_1, .inl (cA_1, 6792, .inl (fun _ => 0))), (q_2, .inl (cA_2, 8, .inr (.inr (.inr (.inr (fun i => if i < 8 then some (r_2 i) else none)))))), ((r_2 0), .inl (cA_1, 6792, .inl (fun _ => 0))), (q_3, .inl (cA_2, 2, .inr (.inr (.inr (.inr (fun i => if i < 2 then some (r_3 i) else none)))))), ((r_3 0), .inl (cA_1, 6792, .inl (fun _ => 0))), ((r_3 1), .inl (cA_1, 6792, .inl (fun _ => 0))), (q_4, .inl (cA_4, 2, .inl (fun _ => 0))), (q_5, .inl (cA_1, 200, .inl (fun _ => 0)))] H := hP
  have hD : va_D A [(b, .inr (12, [.int 0, .ref q_1, .ref q_2, .ref q_3, .ref q_4, .int 0, .ref q_5, .int 0, .int 0, .int 0, .null, .null, .int 0, .null, .int 0, .int 0, .int 0, .int 0, .null, .null, .null, .null, .null, .int 0, .int 0])), (q_1, .inl (cA_1, 6792, .inl (fun _ => 0))), (q_2, .inl (cA_2, 8, .inr (.inr (.inr (.inr (fun i => if i < 8 then some (r_2 i) else none)))))), ((r_2 0), .inl (cA_1, 6792, .inl (fun _ => 0))), (q_3, .inl (cA_2, 2, .inr (.inr (.inr (.inr (fun i => if i < 2 then some (r_3 i) else none)))))), ((r_3 0), .inl (cA_1, 6792, .inl (fun _ => 0))), ((r_3 1), .inl (cA_1, 6792, .inl (fun _ => 0))), (q_4, .inl (cA_4, 2, .inl (fun _ => 0))), (q_5, .inl (cA_1, 200, .inl (fun _ => 0)))] := hD
  refine lv_aload_n hx hb dX12_init_54 rfl (lv_at hl 0 rfl) ?_
  refine lv_bipush (v := 41) hx hb dX12_init_55 (by decide) ?_
  refine va_newa (atype := .int) (a0 := (41, .inl (fun _ => 0))) hx hb (ht _ zw_108) rfl hK hP hD hS hA (fun _ => rfl) (by decide) rfl (Nat.le_of_ble_eq_true rfl) (Nat.le_of_ble_eq_true rfl) (Nat.le_of_ble_eq_true rfl) dX12_init_57 (fun q_6 cA_6 H hK hP hD hS => ?_)
  have hcc : cA_1 = cA_6 := za_same hK 0 3 rfl rfl
  subst hcc
  have hK := hK.sub (tys' := [(cA_1, .int), (cA_2, .array .int), (cA_4, .boolean)]) [0, 1, 2] rfl
  have hP : va_P D vwCl [(b, .inr (12, [.int 0, .ref q_1, .ref q_2, .ref q_3, .ref q_4, .int 0, .ref q_5, .int 0, .int 0, .int 0, .null, .null, .int 0, .null, .int 0, .int 0, .int 0, .int 0, .null, .null, .null, .null, .null, .int 0, .int 0])), (q_1, .inl (cA_1, 6792, .inl (fun _ => 0))), (q_2, .inl (cA_2, 8, .inr (.inr (.inr (.inr (fun i => if i < 8 then some (r_2 i) else none)))))), ((r_2 0), .inl (cA_1, 6792, .inl (fun _ => 0))), (q_3, .inl (cA_2, 2, .inr (.inr (.inr (.inr (fun i => if i < 2 then some (r_3 i) else none)))))), ((r_3 0), .inl (cA_1, 6792, .inl (fun _ => 0))), ((r_3 1), .inl (cA_1, 6792, .inl (fun _ => 0))), (q_4, .inl (cA_4, 2, .inl (fun _ => 0))), (q_5, .inl (cA_1, 200, .inl (fun _ => 0))), (q_6, .inl (cA_1, 41, .inl (fun _ => 0)))] H := hP
  have hD : va_D A [(b, .inr (12, [.int 0, .ref q_1, .ref q_2, .ref q_3, .ref q_4, .int 0, .ref q_5, .int 0, .int 0, .int 0, .null, .null, .int 0, .null, .int 0, .int 0, .int 0, .int 0, .null, .null, .null, .null, .null, .int 0, .int 0])), (q_1, .inl (cA_1, 6792, .inl (fun _ => 0))), (q_2, .inl (cA_2, 8, .inr (.inr (.inr (.inr (fun i => if i < 8 then some (r_2 i) else none)))))), ((r_2 0), .inl (cA_1, 6792, .inl (fun _ => 0))), (q_3, .inl (cA_2, 2, .inr (.inr (.inr (.inr (fun i => if i < 2 then some (r_3 i) else none)))))), ((r_3 0), .inl (cA_1, 6792, .inl (fun _ => 0))), ((r_3 1), .inl (cA_1, 6792, .inl (fun _ => 0))), (q_4, .inl (cA_4, 2, .inl (fun _ => 0))), (q_5, .inl (cA_1, 200, .inl (fun _ => 0))), (q_6, .inl (cA_1, 41, .inl (fun _ => 0)))] := hD
  have hK : va_K D vwCl [(cA_1, .int), (cA_2, .array .int), (cA_4, .boolean)] s := hK
  refine W.widen (k := 16) (n := 74965) (Nat.le_of_ble_eq_true rfl) (Nat.le_of_ble_eq_true rfl) ?_
  refine va_putF (D := D) (ci := 12) (v := .ref q_6) (ty := .array .int) (C := RX12) (T := TX12) (N := 25) hx hb ht zinX12 tyX12 tyX12_ok nmX12 hown hK hP hD hS 0 rfl rfl 10 (by decide) (ht _ zw_123) (fun _ h9 => h9) rfl hin rfl (by decide +kernel) rfl rfl (Nat.le_of_ble_eq_true rfl) dX12_init_59 (fun H locs hP hD hS => ?_)
  have hP : va_P D vwCl [(b, .inr (12, [.int 0, .ref q_1, .ref q_2, .ref q_3, .ref q_4, .int 0, .ref q_5, .int 0, .int 0, .int 0, .ref q_6, .null, .int 0, .null, .int 0, .int 0, .int 0, .int 0, .null, .null, .null, .null, .null, .int 0, .int 0])), (q_1, .inl (cA_1, 6792, .inl (fun _ => 0))), (q_2, .inl (cA_2, 8, .inr (.inr (.inr (.inr (fun i => if i < 8 then some (r_2 i) else none)))))), ((r_2 0), .inl (cA_1, 6792, .inl (fun _ => 0))), (q_3, .inl (cA_2, 2, .inr (.inr (.inr (.inr (fun i => if i < 2 then some (r_3 i) else none)))))), ((r_3 0), .inl (cA_1, 6792, .inl (fun _ => 0))), ((r_3 1), .inl (cA_1, 6792, .inl (fun _ => 0))), (q_4, .inl (cA_4, 2, .inl (fun _ => 0))), (q_5, .inl (cA_1, 200, .inl (fun _ => 0))), (q_6, .inl (cA_1, 41, .inl (fun _ => 0)))] H := hP
  have hD : va_D A [(b, .inr (12, [.int 0, .ref q_1, .ref q_2, .ref q_3, .ref q_4, .int 0, .ref q_5, .int 0, .int 0, .int 0, .ref q_6, .null, .int 0, .null, .int 0, .int 0, .int 0, .int 0, .null, .null, .null, .null, .null, .int 0, .int 0])), (q_1, .inl (cA_1, 6792, .inl (fun _ => 0))), (q_2, .inl (cA_2, 8, .inr (.inr (.inr (.inr (fun i => if i < 8 then some (r_2 i) else none)))))), ((r_2 0), .inl (cA_1, 6792, .inl (fun _ => 0))), (q_3, .inl (cA_2, 2, .inr (.inr (.inr (.inr (fun i => if i < 2 then some (r_3 i) else none)))))), ((r_3 0), .inl (cA_1, 6792, .inl (fun _ => 0))), ((r_3 1), .inl (cA_1, 6792, .inl (fun _ => 0))), (q_4, .inl (cA_4, 2, .inl (fun _ => 0))), (q_5, .inl (cA_1, 200, .inl (fun _ => 0))), (q_6, .inl (cA_1, 41, .inl (fun _ => 0)))] := hD
  refine lv_aload_n hx hb dX12_init_62 rfl (lv_at hl 0 rfl) ?_
  refine lv_sipush (v := 1312) hx hb dX12_init_63 (by decide) ?_
  refine va_newa (atype := .int) (a0 := (1312, .inl (fun _ => 0))) hx hb (ht _ zw_108) rfl hK hP hD hS hA (fun _ => rfl) (by decide) rfl (Nat.le_of_ble_eq_true rfl) (Nat.le_of_ble_eq_true rfl) (Nat.le_of_ble_eq_true rfl) dX12_init_66 (fun q_7 cA_7 H hK hP hD hS => ?_)
  have hcc : cA_1 = cA_7 := za_same hK 0 3 rfl rfl
  subst hcc
  have hK := hK.sub (tys' := [(cA_1, .int), (cA_2, .array .int), (cA_4, .boolean)]) [0, 1, 2] rfl
  have hP := hP.sub (ws' := [(b, .inr (12, [.int 0, .ref q_1, .ref q_2, .ref q_3, .ref q_4, .int 0, .ref q_5, .int 0, .int 0, .int 0, .ref q_6, .null, .int 0, .null, .int 0, .int 0, .int 0, .int 0, .null, .null, .null, .null, .null, .int 0, .int 0])), (q_1, .inl (cA_1, 6792, .inl (fun _ => 0))), (q_2, .inl (cA_2, 8, .inr (.inr (.inr (.inr (fun i => if i < 8 then some (r_2 i) else none)))))), ((r_2 0), .inl (cA_1, 6792, .inl (fun _ => 0))), (q_3, .inl (cA_2, 2, .inr (.inr (.inr (.inr (fun i => if i < 2 then some (r_3 i) else none)))))), ((r_3 0), .inl (cA_1, 6792, .inl (fun _ => 0))), ((r_3 1), .inl (cA_1, 6792, .inl (fun _ => 0))), (q_4, .inl (cA_4, 2, .inl (fun _ => 0))), (q_5, .inl (cA_1, 200, .inl (fun _ => 0))), (q_6, .inl (cA_1, 41, .inl (fun _ => 0)))]) [0, 1, 2, 3, 4, 5, 6, 7, 8, 9] rfl
  have hD := hD.sub (ws' := [(b, .inr (12, [.int 0, .ref q_1, .ref q_2, .ref q_3, .ref q_4, .int 0, .ref q_5, .int 0, .int 0, .int 0, .ref q_6, .null, .int 0, .null, .int 0, .int 0, .int 0, .int 0, .null, .null, .null, .null, .null, .int 0, .int 0])), (q_1, .inl (cA_1, 6792, .inl (fun _ => 0))), (q_2, .inl (cA_2, 8, .inr (.inr (.inr (.inr (fun i => if i < 8 then some (r_2 i) else none)))))), ((r_2 0), .inl (cA_1, 6792, .inl (fun _ => 0))), (q_3, .inl (cA_2, 2, .inr (.inr (.inr (.inr (fun i => if i < 2 then some (r_3 i) else none)))))), ((r_3 0), .inl (cA_1, 6792, .inl (fun _ => 0))), ((r_3 1), .inl (cA_1, 6792, .inl (fun _ => 0))), (q_4, .inl (cA_4, 2, .inl (fun _ => 0))), (q_5, .inl (cA_1, 200, .inl (fun _ => 0))), (q_6, .inl (cA_1, 41, .inl (fun _ => 0)))]) [0, 1, 2, 3, 4, 5, 6, 7, 8, 9] (by decide) rfl
  have hP : va_P D vwCl [(b, .inr (12, [.int 0, .ref q_1, .ref q_2, .ref q_3, .ref q_4, .int 0, .ref q_5, .int 0, .int 0, .int 0, .ref q_6, .null, .int 0, .null, .int 0, .int 0, .int 0, .int 0, .null, .null, .null, .null, .null, .int 0, .int 0])), (q_1, .inl (cA_1, 6792, .inl (fun _ => 0))), (q_2, .inl (cA_2, 8, .inr (.inr (.inr (.inr (fun i => if i < 8 then some (r_2 i) else none)))))), ((r_2 0), .inl (cA_1, 6792, .inl (fun _ => 0))), (q_3, .inl (cA_2, 2, .inr (.inr (.inr (.inr (fun i => if i < 2 then some (r_3 i) else none)))))), ((r_3 0), .inl (cA_1, 6792, .inl (fun _ => 0))), ((r_3 1), .inl (cA_1, 6792, .inl (fun _ => 0))), (q_4, .inl (cA_4, 2, .inl (fun _ => 0))), (q_5, .inl (cA_1, 200, .inl (fun _ => 0))), (q_6, .inl (cA_1, 41, .inl (fun _ => 0)))] H := hP
  have hD : va_D A [(b, .inr (12, [.int 0, .ref q_1, .ref q_2, .ref q_3, .ref q_4, .int 0, .ref q_5, .int 0, .int 0, .int 0, .ref q_6, .null, .int 0, .null, .int 0, .int 0, .int 0, .int 0, .null, .null, .null, .null, .null, .int 0, .int 0])), (q_1, .inl (cA_1, 6792, .inl (fun _ => 0))), (q_2, .inl (cA_2, 8, .inr (.inr (.inr (.inr (fun i => if i < 8 then some (r_2 i) else none)))))), ((r_2 0), .inl (cA_1, 6792, .inl (fun _ => 0))), (q_3, .inl (cA_2, 2, .inr (.inr (.inr (.inr (fun i => if i < 2 then some (r_3 i) else none)))))), ((r_3 0), .inl (cA_1, 6792, .inl (fun _ => 0))), ((r_3 1), .inl (cA_1, 6792, .inl (fun _ => 0))), (q_4, .inl (cA_4, 2, .inl (fun _ => 0))), (q_5, .inl (cA_1, 200, .inl (fun _ => 0))), (q_6, .inl (cA_1, 41, .inl (fun _ => 0)))] := hD
  have hK : va_K D vwCl [(cA_1, .int), (cA_2, .array .int), (cA_4, .boolean)] s := hK
  refine W.widen (k := 17) (n := 76277) (Nat.le_of_ble_eq_true rfl) (Nat.le_of_ble_eq_true rfl) ?_
  refine va_putF (D := D) (ci := 12) (v := .ref q_7) (ty := .array .int) (C := RX12) (T := TX12) (N := 25) hx hb ht zinX12 tyX12 tyX12_ok nmX12 hown hK hP hD hS 0 rfl rfl 11 (by decide) (ht _ zw_148) (fun _ h9 => h9) rfl hin rfl (by decide +kernel) rfl rfl (Nat.le_of_ble_eq_true rfl) dX12_init_68 (fun H locs hP hD hS => ?_)
  have hP : va_P D vwCl [(b, .inr (12, [.int 0, .ref q_1, .ref q_2, .ref q_3, .ref q_4, .int 0, .ref q_5, .int 0, .int 0, .int 0, .ref q_6, .ref q_7, .int 0, .null, .int 0, .int 0, .int 0, .int 0, .null, .null, .null, .null, .null, .int 0, .int 0])), (q_1, .inl (cA_1, 6792, .inl (fun _ => 0))), (q_2, .inl (cA_2, 8, .inr (.inr (.inr (.inr (fun i => if i < 8 then some (r_2 i) else none)))))), ((r_2 0), .inl (cA_1, 6792, .inl (fun _ => 0))), (q_3, .inl (cA_2, 2, .inr (.inr (.inr (.inr (fun i => if i < 2 then some (r_3 i) else none)))))), ((r_3 0), .inl (cA_1, 6792, .inl (fun _ => 0))), ((r_3 1), .inl (cA_1, 6792, .inl (fun _ => 0))), (q_4, .inl (cA_4, 2, .inl (fun _ => 0))), (q_5, .inl (cA_1, 200, .inl (fun _ => 0))), (q_6, .inl (cA_1, 41, .inl (fun _ => 0)))] H := hP
  have hD : va_D A [(b, .inr (12, [.int 0, .ref q_1, .ref q_2, .ref q_3, .ref q_4, .int 0, .ref q_5, .int 0, .int 0, .int 0, .ref q_6, .ref q_7, .int 0, .null, .int 0, .int 0, .int 0, .int 0, .null, .null, .null, .null, .null, .int 0, .int 0])), (q_1, .inl (cA_1, 6792, .inl (fun _ => 0))), (q_2, .inl (cA_2, 8, .inr (.inr (.inr (.inr (fun i => if i < 8 then some (r_2 i) else none)))))), ((r_2 0), .inl (cA_1, 6792, .inl (fun _ => 0))), (q_3, .inl (cA_2, 2, .inr (.inr (.inr (.inr (fun i => if i < 2 then some (r_3 i) else none)))))), ((r_3 0), .inl (cA_1, 6792, .inl (fun _ => 0))), ((r_3 1), .inl (cA_1, 6792, .inl (fun _ => 0))), (q_4, .inl (cA_4, 2, .inl (fun _ => 0))), (q_5, .inl (cA_1, 200, .inl (fun _ => 0))), (q_6, .inl (cA_1, 41, .inl (fun _ => 0)))] := hD
  refine lv_aload_n hx hb dX12_init_71 rfl (lv_at hl 0 rfl) ?_
  refine lv_iconst (v := 4) hx hb dX12_init_72 (by decide) ?_
  refine lv_iconst (v := 1) hx hb dX12_init_73 (by decide) ?_
  refine va_mna (X := [(b, .inr (12, [.int 0, .ref q_1, .ref q_2, .ref q_3, .ref q_4, .int 0, .ref q_5, .int 0, .int 0, .int 0, .ref q_6, .ref q_7, .int 0, .null, .int 0, .int 0, .int 0, .int 0, .null, .null, .null, .null, .null, .int 0, .int 0])), (q_1, .inl (cA_1, 6792, .inl (fun _ => 0))), (q_2, .inl (cA_2, 8, .inr (.inr (.inr (.inr (fun i => if i < 8 then some (r_2 i) else none)))))), ((r_2 0), .inl (cA_1, 6792, .inl (fun _ => 0))), (q_3, .inl (cA_2, 2, .inr (.inr (.inr (.inr (fun i => if i < 2 then some (r_3 i) else none)))))), ((r_3 0), .inl (cA_1, 6792, .inl (fun _ => 0))), ((r_3 1), .inl (cA_1, 6792, .inl (fun _ => 0))), (q_4, .inl (cA_4, 2, .inl (fun _ => 0))), (q_5, .inl (cA_1, 200, .inl (fun _ => 0))), (q_6, .inl (cA_1, 41, .inl (fun _ => 0)))]) (L := []) (f := ((fun _ => .inr (0, [])) : Nat → va_E)) (z := (1, .inl (fun _ => 0))) (cy := cA_1) hx hb hown (ht _ zw_147) hX (ht _ zw_108) (za_ra (hK.2 0 _ rfl).2) hK hP hD hS hA (by decide) (by decide) rfl rfl (Nat.le_of_ble_eq_true rfl) (Nat.le_of_ble_eq_true rfl) (Nat.le_of_ble_eq_true rfl) (by decide) (by decide) (Nat.le_of_ble_eq_true rfl) (Nat.le_of_ble_eq_true rfl) (fun c => arrV_new c 1 _) dX12_init_74 (fun q_8 r_8 cA_8 H hri hrn hK hP hD hS => ?_)
  have hP := hP.sub (ws' := [(b, .inr (12, [.int 0, .ref q_1, .ref q_2, .ref q_3, .ref q_4, .int 0, .ref q_5, .int 0, .int 0, .int 0, .ref q_6, .ref q_7, .int 0, .null, .int 0, .int 0, .int 0, .int 0, .null, .null, .null, .null, .null, .int 0, .int 0])), (q_1, .inl (cA_1, 6792, .inl (fun _ => 0))), (q_2, .inl (cA_2, 8, .inr (.inr (.inr (.inr (fun i => if i < 8 then some (r_2 i) else none)))))), ((r_2 0), .inl (cA_1, 6792, .inl (fun _ => 0))), (q_3, .inl (cA_2, 2, .inr (.inr (.inr (.inr (fun i => if i < 2 then some (r_3 i) else none)))))), ((r_3 0), .inl (cA_1, 6792, .inl (fun _ => 0))), ((r_3 1), .inl (cA_1, 6792, .inl (fun _ => 0))), (q_4, .inl (cA_4, 2, .inl (fun _ => 0))), (q_5, .inl (cA_1, 200, .inl (fun _ => 0))), (q_6, .inl (cA_1, 41, .inl (fun _ => 0)))]) [0, 1, 2, 3, 4, 5, 6, 7, 8, 9] rfl
  have hD := hD.sub (ws' := [(b, .inr (12, [.int 0, .ref q_1, .ref q_2, .ref q_3, .ref q_4, .int 0, .ref q_5, .int 0, .int 0, .int 0, .ref q_6, .ref q_7, .int 0, .null, .int 0, .int 0, .int 0, .int 0, .null, .null, .null, .null, .null, .int 0, .int 0])), (q_1, .inl (cA_1, 6792, .inl (fun _ => 0))), (q_2, .inl (cA_2, 8, .inr (.inr (.inr (.inr (fun i => if i < 8 then some (r_2 i) else none)))))), ((r_2 0), .inl (cA_1, 6792, .inl (fun _ => 0))), (q_3, .inl (cA_2, 2, .inr (.inr (.inr (.inr (fun i => if i < 2 then some (r_3 i) else none)))))), ((r_3 0), .inl (cA_1, 6792, .inl (fun _ => 0))), ((r_3 1), .inl (cA_1, 6792, .inl (fun _ => 0))), (q_4, .inl (cA_4, 2, .inl (fun _ => 0))), (q_5, .inl (cA_1, 200, .inl (fun _ => 0))), (q_6, .inl (cA_1, 41, .inl (fun _ => 0)))]) [0, 1, 2, 3, 4, 5, 6, 7, 8, 9] (by decide) rfl
  have hK := hK.sub (tys' := [(cA_1, .int), (cA_2, .array .int), (cA_4, .boolean)]) [0, 1, 2] rfl
  have hP : va_P D vwCl [(b, .inr (12, [.int 0, .ref q_1, .ref q_2, .ref q_3, .ref q_4, .int 0, .ref q_5, .int 0, .int 0, .int 0, .ref q_6, .ref q_7, .int 0, .null, .int 0, .int 0, .int 0, .int 0, .null, .null, .null, .null, .null, .int 0, .int 0])), (q_1, .inl (cA_1, 6792, .inl (fun _ => 0))), (q_2, .inl (cA_2, 8, .inr (.inr (.inr (.inr (fun i => if i < 8 then some (r_2 i) else none)))))), ((r_2 0), .inl (cA_1, 6792, .inl (fun _ => 0))), (q_3, .inl (cA_2, 2, .inr (.inr (.inr (.inr (fun i => if i < 2 then some (r_3 i) else none)))))), ((r_3 0), .inl (cA_1, 6792, .inl (fun _ => 0))), ((r_3 1), .inl (cA_1, 6792, .inl (fun _ => 0))), (q_4, .inl (cA_4, 2, .inl (fun _ => 0))), (q_5, .inl (cA_1, 200, .inl (fun _ => 0))), (q_6, .inl (cA_1, 41, .inl (fun _ => 0)))] H := hP
  have hD : va_D A [(b, .inr (12, [.int 0, .ref q_1, .ref q_2, .ref q_3, .ref q_4, .int 0, .ref q_5, .int 0, .int 0, .int 0, .ref q_6, .ref q_7, .int 0, .null, .int 0, .int 0, .int 0, .int 0, .null, .null, .null, .null, .null, .int 0, .int 0])), (q_1, .inl (cA_1, 6792, .inl (fun _ => 0))), (q_2, .inl (cA_2, 8, .inr (.inr (.inr (.inr (fun i => if i < 8 then some (r_2 i) else none)))))), ((r_2 0), .inl (cA_1, 6792, .inl (fun _ => 0))), (q_3, .inl (cA_2, 2, .inr (.inr (.inr (.inr (fun i => if i < 2 then some (r_3 i) else none)))))), ((r_3 0), .inl (cA_1, 6792, .inl (fun _ => 0))), ((r_3 1), .inl (cA_1, 6792, .inl (fun _ => 0))), (q_4, .inl (cA_4, 2, .inl (fun _ => 0))), (q_5, .inl (cA_1, 200, .inl (fun _ => 0))), (q_6, .inl (cA_1, 41, .inl (fun _ => 0)))] := hD
  have hK : va_K D vwCl [(cA_1, .int), (cA_2, .array .int), (cA_4, .boolean)] s := hK
  refine W.widen (k := 22) (n := 76285) (Nat.le_of_ble_eq_true rfl) (Nat.le_of_ble_eq_true rfl) ?_
  refine va_putF (D := D) (ci := 12) (v := .ref q_8) (ty := .array (.array .int)) (C := RX12) (T := TX12) (N := 25) hx hb ht zinX12 tyX12 tyX12_ok nmX12 hown hK hP hD hS 0 rfl rfl 13 (by decide) (ht _ zw_149) (fun _ h9 => h9) rfl hin rfl (by decide +kernel) rfl rfl (Nat.le_of_ble_eq_true rfl) dX12_init_78 (fun H locs hP hD hS => ?_)
  have hP : va_P D vwCl [(b, .inr (12, [.int 0, .ref q_1, .ref q_2, .ref q_3, .ref q_4, .int 0, .ref q_5, .int 0, .int 0, .int 0, .ref q_6, .ref q_7, .int 0, .ref q_8, .int 0, .int 0, .int 0, .int 0, .null, .null, .null, .null, .null, .int 0, .int 0])), (q_1, .inl (cA_1, 6792, .inl (fun _ => 0))), (q_2, .inl (cA_2, 8, .inr (.inr (.inr (.inr (fun i => if i < 8 then some (r_2 i) else none)))))), ((r_2 0), .inl (cA_1, 6792, .inl (fun _ => 0))), (q_3, .inl (cA_2, 2, .inr (.inr (.inr (.inr (fun i => if i < 2 then some (r_3 i) else none)))))), ((r_3 0), .inl (cA_1, 6792, .inl (fun _ => 0))), ((r_3 1), .inl (cA_1, 6792, .inl (fun _ => 0))), (q_4, .inl (cA_4, 2, .inl (fun _ => 0))), (q_5, .inl (cA_1, 200, .inl (fun _ => 0))), (q_6, .inl (cA_1, 41, .inl (fun _ => 0)))] H := hP
  have hD : va_D A [(b, .inr (12, [.int 0, .ref q_1, .ref q_2, .ref q_3, .ref q_4, .int 0, .ref q_5, .int 0, .int 0, .int 0, .ref q_6, .ref q_7, .int 0, .ref q_8, .int 0, .int 0, .int 0, .int 0, .null, .null, .null, .null, .null, .int 0, .int 0])), (q_1, .inl (cA_1, 6792, .inl (fun _ => 0))), (q_2, .inl (cA_2, 8, .inr (.inr (.inr (.inr (fun i => if i < 8 then some (r_2 i) else none)))))), ((r_2 0), .inl (cA_1, 6792, .inl (fun _ => 0))), (q_3, .inl (cA_2, 2, .inr (.inr (.inr (.inr (fun i => if i < 2 then some (r_3 i) else none)))))), ((r_3 0), .inl (cA_1, 6792, .inl (fun _ => 0))), ((r_3 1), .inl (cA_1, 6792, .inl (fun _ => 0))), (q_4, .inl (cA_4, 2, .inl (fun _ => 0))), (q_5, .inl (cA_1, 200, .inl (fun _ => 0))), (q_6, .inl (cA_1, 41, .inl (fun _ => 0)))] := hD
  refine lv_aload_n hx hb dX12_init_81 rfl (lv_at hl 0 rfl) ?_
  refine lv_sipush (v := 1001) hx hb dX12_init_82 (by decide) ?_
  refine lv_bipush (v := 41) hx hb dX12_init_85 (by decide) ?_
  refine va_mna (X := [(b, .inr (12, [.int 0, .ref q_1, .ref q_2, .ref q_3, .ref q_4, .int 0, .ref q_5, .int 0, .int 0, .int 0, .ref q_6, .ref q_7, .int 0, .ref q_8, .int 0, .int 0, .int 0, .int 0, .null, .null, .null, .null, .null, .int 0, .int 0])), (q_1, .inl (cA_1, 6792, .inl (fun _ => 0))), (q_2, .inl (cA_2, 8, .inr (.inr (.inr (.inr (fun i => if i < 8 then some (r_2 i) else none)))))), ((r_2 0), .inl (cA_1, 6792, .inl (fun _ => 0))), (q_3, .inl (cA_2, 2, .inr (.inr (.inr (.inr (fun i => if i < 2 then some (r_3 i) else none)))))), ((r_3 0), .inl (cA_1, 6792, .inl (fun _ => 0))), ((r_3 1), .inl (cA_1, 6792, .inl (fun _ => 0))), (q_4, .inl (cA_4, 2, .inl (fun _ => 0))), (q_5, .inl (cA_1, 200, .inl (fun _ => 0))), (q_6, .inl (cA_1, 41, .inl (fun _ => 0)))]) (L := []) (f := ((fun _ => .inr (0, [])) : Nat → va_E)) (z := (41, .inl (fun _ => 0))) (cy := cA_1) hx hb hown (ht _ zw_147) hX (ht _ zw_108) (za_ra (hK.2 0 _ rfl).2) hK hP hD hS hA (by decide) (by decide) rfl rfl (Nat.le_of_ble_eq_true rfl) (Nat.le_of_ble_eq_true rfl) (Nat.le_of_ble_eq_true rfl) (by decide) (by decide) (Nat.le_of_ble_eq_true rfl) (Nat.le_of_ble_eq_true rfl) (fun c => arrV_new c 41 _) dX12_init_87 (fun q_9 r_9 cA_9 H hri hrn hK hP hD hS => ?_)
  have hP := hP.sub (ws' := [(b, .inr (12, [.int 0, .ref q_1, .ref q_2, .ref q_3, .ref q_4, .int 0, .ref q_5, .int 0, .int 0, .int 0, .ref q_6, .ref q_7, .int 0, .ref q_8, .int 0, .int 0, .int 0, .int 0, .null, .null, .null, .null, .null, .int 0, .int 0])), (q_1, .inl (cA_1, 6792, .inl (fun _ => 0))), (q_2, .inl (cA_2, 8, .inr (.inr (.inr (.inr (fun i => if i < 8 then some (r_2 i) else none)))))), ((r_2 0), .inl (cA_1, 6792, .inl (fun _ => 0))), (q_3, .inl (cA_2, 2, .inr (.inr (.inr (.inr (fun i => if i < 2 then some (r_3 i) else none)))))), ((r_3 0), .inl (cA_1, 6792, .inl (fun _ => 0))), ((r_3 1), .inl (cA_1, 6792, .inl (fun _ => 0))), (q_4, .inl (cA_4, 2, .inl (fun _ => 0))), (q_5, .inl (cA_1, 200, .inl (fun _ => 0))), (q_6, .inl (cA_1, 41, .inl (fun _ => 0)))]) [0, 1, 2, 3, 4, 5, 6, 7, 8, 9] rfl
  have hD := hD.sub (ws' := [(b, .inr (12, [.int 0, .ref q_1, .ref q_2, .ref q_3, .ref q_4, .int 0, .ref q_5, .int 0, .int 0, .int 0, .ref q_6, .ref q_7, .int 0, .ref q_8, .int 0, .int 0, .int 0, .int 0, .null, .null, .null, .null, .null, .int 0, .int 0])), (q_1, .inl (cA_1, 6792, .inl (fun _ => 0))), (q_2, .inl (cA_2, 8, .inr (.inr (.inr (.inr (fun i => if i < 8 then some (r_2 i) else none)))))), ((r_2 0), .inl (cA_1, 6792, .inl (fun _ => 0))), (q_3, .inl (cA_2, 2, .inr (.inr (.inr (.inr (fun i => if i < 2 then some (r_3 i) else none)))))), ((r_3 0), .inl (cA_1, 6792, .inl (fun _ => 0))), ((r_3 1), .inl (cA_1, 6792, .inl (fun _ => 0))), (q_4, .inl (cA_4, 2, .inl (fun _ => 0))), (q_5, .inl (cA_1, 200, .inl (fun _ => 0))), (q_6, .inl (cA_1, 41, .inl (fun _ => 0)))]) [0, 1, 2, 3, 4, 5, 6, 7, 8, 9] (by decide) rfl
  have hK := hK.sub (tys' := [(cA_1, .int), (cA_2, .array .int), (cA_4, .boolean)]) [0, 1, 2] rfl
  have hP : va_P D vwCl [(b, .inr (12, [.int 0, .ref q_1, .ref q_2, .ref q_3, .ref q_4, .int 0, .ref q_5, .int 0, .int 0, .int 0, .ref q_6, .ref q_7, .int 0, .ref q_8, .int 0, .int 0, .int 0, .int 0, .null, .null, .null, .null, .null, .int 0, .int 0])), (q_1, .inl (cA_1, 6792, .inl (fun _ => 0))), (q_2, .inl (cA_2, 8, .inr (.inr (.inr (.inr (fun i => if i < 8 then some (r_2 i) else none)))))), ((r_2 0), .inl (cA_1, 6792, .inl (fun _ => 0))), (q_3, .inl (cA_2, 2, .inr (.inr (.inr (.inr (fun i => if i < 2 then some (r_3 i) else none)))))), ((r_3 0), .inl (cA_1, 6792, .inl (fun _ => 0))), ((r_3 1), .inl (cA_1, 6792, .inl (fun _ => 0))), (q_4, .inl (cA_4, 2, .inl (fun _ => 0))), (q_5, .inl (cA_1, 200, .inl (fun _ => 0))), (q_6, .inl (cA_1, 41, .inl (fun _ => 0)))] H := hP
  have hD : va_D A [(b, .inr (12, [.int 0, .ref q_1, .ref q_2, .ref q_3, .ref q_4, .int 0, .ref q_5, .int 0, .int 0, .int 0, .ref q_6, .ref q_7, .int 0, .ref q_8, .int 0, .int 0, .int 0, .int 0, .null, .null, .null, .null, .null, .int 0, .int 0])), (q_1, .inl (cA_1, 6792, .inl (fun _ => 0))), (q_2, .inl (cA_2, 8, .inr (.inr (.inr (.inr (fun i => if i < 8 then some (r_2 i) else none)))))), ((r_2 0), .inl (cA_1, 6792, .inl (fun _ => 0))), (q_3, .inl (cA_2, 2, .inr (.inr (.inr (.inr (fun i => if i < 2 then some (r_3 i) else none)))))), ((r_3 0), .inl (cA_1, 6792, .inl (fun _ => 0))), ((r_3 1), .inl (cA_1, 6792, .inl (fun _ => 0))), (q_4, .inl (cA_4, 2, .inl (fun _ => 0))), (q_5, .inl (cA_1, 200, .inl (fun _ => 0))), (q_6, .inl (cA_1, 41, .inl (fun _ => 0)))] := hD
  have hK : va_K D vwCl [(cA_1, .int), (cA_2, .array .int), (cA_4, .boolean)] s := hK
  refine W.widen (k := 1024) (n := 118327) (Nat.le_of_ble_eq_true rfl) (Nat.le_of_ble_eq_true rfl) ?_
  refine va_putF (D := D) (ci := 12) (v := .ref q_9) (ty := .array (.array .int)) (C := RX12) (T := TX12) (N := 25) hx hb ht zinX12 tyX12 tyX12_ok nmX12 hown hK hP hD hS 0 rfl rfl 18 (by decide) (ht _ zw_150) (fun _ h9 => h9) rfl hin rfl (by decide +kernel) rfl rfl (Nat.le_of_ble_eq_true rfl) dX12_init_91 (fun H locs hP hD hS => ?_)
  have hP : va_P D vwCl [(b, .inr (12, [.int 0, .ref q_1, .ref q_2, .ref q_3, .ref q_4, .int 0, .ref q_5, .int 0, .int 0, .int 0, .ref q_6, .ref q_7, .int 0, .ref q_8, .int 0, .int 0, .int 0, .int 0, .ref q_9, .null, .null, .null, .null, .int 0, .int 0])), (q_1, .inl (cA_1, 6792, .inl (fun _ => 0))), (q_2, .inl (cA_2, 8, .inr (.inr (.inr (.inr (fun i => if i < 8 then some (r_2 i) else none)))))), ((r_2 0), .inl (cA_1, 6792, .inl (fun _ => 0))), (q_3, .inl (cA_2, 2, .inr (.inr (.inr (.inr (fun i => if i < 2 then some (r_3 i) else none)))))), ((r_3 0), .inl (cA_1, 6792, .inl (fun _ => 0))), ((r_3 1), .inl (cA_1, 6792, .inl (fun _ => 0))), (q_4, .inl (cA_4, 2, .inl (fun _ => 0))), (q_5, .inl (cA_1, 200, .inl (fun _ => 0))), (q_6, .inl (cA_1, 41, .inl (fun _ => 0)))] H := hP
  have hD : va_D A [(b, .inr (12, [.int 0, .ref q_1, .ref q_2, .ref q_3, .ref q_4, .int 0, .ref q_5, .int 0, .int 0, .int 0, .ref q_6, .ref q_7, .int 0, .ref q_8, .int 0, .int 0, .int 0, .int 0, .ref q_9, .null, .null, .null, .null, .int 0, .int 0])), (q_1, .inl (cA_1, 6792, .inl (fun _ => 0))), (q_2, .inl (cA_2, 8, .inr (.inr (.inr (.inr (fun i => if i < 8 then some (r_2 i) else none)))))), ((r_2 0), .inl (cA_1, 6792, .inl (fun _ => 0))), (q_3, .inl (cA_2, 2, .inr (.inr (.inr (.inr (fun i => if i < 2 then some (r_3 i) else none)))))), ((r_3 0), .inl (cA_1, 6792, .inl (fun _ => 0))), ((r_3 1), .inl (cA_1, 6792, .inl (fun _ => 0))), (q_4, .inl (cA_4, 2, .inl (fun _ => 0))), (q_5, .inl (cA_1, 200, .inl (fun _ => 0))), (q_6, .inl (cA_1, 41, .inl (fun _ => 0)))] := hD
  refine lv_aload_n hx hb dX12_init_94 rfl (lv_at hl 0 rfl) ?_
  refine lv_sipush (v := 1001) hx hb dX12_init_95 (by decide) ?_
  refine va_newa (atype := .int) (a0 := (1001, .inl (fun _ => 0))) hx hb (ht _ zw_108) rfl hK hP hD hS hA (fun _ => rfl) (by decide) rfl (Nat.le_of_ble_eq_true rfl) (Nat.le_of_ble_eq_true rfl) (Nat.le_of_ble_eq_true rfl) dX12_init_98 (fun q_10 cA_10 H hK hP hD hS => ?_)
  have hcc : cA_1 = cA_10 := za_same hK 0 3 rfl rfl
  subst hcc
  have hK := hK.sub (tys' := [(cA_1, .int), (cA_2, .array .int), (cA_4, .boolean)]) [0, 1, 2] rfl
  have hP := hP.sub (ws' := [(b, .inr (12, [.int 0, .ref q_1, .ref q_2, .ref q_3, .ref q_4, .int 0, .ref q_5, .int 0, .int 0, .int 0, .ref q_6, .ref q_7, .int 0, .ref q_8, .int 0, .int 0, .int 0, .int 0, .ref q_9, .null, .null, .null, .null, .int 0, .int 0])), (q_1, .inl (cA_1, 6792, .inl (fun _ => 0))), (q_2, .inl (cA_2, 8, .inr (.inr (.inr (.inr (fun i => if i < 8 then some (r_2 i) else none)))))), ((r_2 0), .inl (cA_1, 6792, .inl (fun _ => 0))), (q_3, .inl (cA_2, 2, .inr (.inr (.inr (.inr (fun i => if i < 2 then some (r_3 i) else none)))))), ((r_3 0), .inl (cA_1, 6792, .inl (fun _ => 0))), ((r_3 1), .inl (cA_1, 6792, .inl (fun _ => 0))), (q_4, .inl (cA_4, 2, .inl (fun _ => 0))), (q_5, .inl (cA_1, 200, .inl (fun _ => 0))), (q_6, .inl (cA_1, 41, .inl (fun _ => 0)))]) [0, 1, 2, 3, 4, 5, 6, 7, 8, 9] rfl
  have hD := hD.sub (ws' := [(b, .inr (12, [.int 0, .ref q_1, .ref q_2, .ref q_3, .ref q_4, .int 0, .ref q_5, .int 0, .int 0, .int 0, .ref q_6, .ref q_7, .int 0, .ref q_8, .int 0, .int 0, .int 0, .int 0, .ref q_9, .null, .null, .null, .null, .int 0, .int 0])), (q_1, .inl (cA_1, 6792, .inl (fun _ => 0))), (q_2, .inl (cA_2, 8, .inr (.inr (.inr (.inr (fun i => if i < 8 then some (r_2 i) else none)))))), ((r_2 0), .inl (cA_1, 6792, .inl (fun _ => 0))), (q_3, .inl (cA_2, 2, .inr (.inr (.inr (.inr (fun i => if i < 2 then some (r_3 i) else none)))))), ((r_3 0), .inl (cA_1, 6792, .inl (fun _ => 0))), ((r_3 1), .inl (cA_1, 6792, .inl (fun _ => 0))), (q_4, .inl (cA_4, 2, .inl (fun _ => 0))), (q_5, .inl (cA_1, 200, .inl (fun _ => 0))), (q_6, .inl (cA_1, 41, .inl (fun _ => 0)))]) [0, 1, 2, 3, 4, 5, 6, 7, 8, 9] (by decide) rfl
  have hP : va_P D vwCl [(b, .inr (12, [.int 0, .ref q_1, .ref q_2, .ref q_3, .ref q_4, .int 0, .ref q_5, .int 0, .int 0, .int 0, .ref q_6, .ref q_7, .int 0, .ref q_8, .int 0, .int 0, .int 0, .int 0, .ref q_9, .null, .null, .null, .null, .int 0, .int 0])), (q_1, .inl (cA_1, 6792, .inl (fun _ => 0))), (q_2, .inl (cA_2, 8, .inr (.inr (.inr (.inr (fun i => if i < 8 then some (r_2 i) else none)))))), ((r_2 0), .inl (cA_1, 6792, .inl (fun _ => 0))), (q_3, .inl (cA_2, 2, .inr (.inr (.inr (.inr (fun i => if i < 2 then some (r_3 i) else none)))))), ((r_3 0), .inl (cA_1, 6792, .inl (fun _ => 0))), ((r_3 1), .inl (cA_1, 6792, .inl (fun _ => 0))), (q_4, .inl (cA_4, 2, .inl (fun _ => 0))), (q_5, .inl (cA_1, 200, .inl (fun _ => 0))), (q_6, .inl (cA_1, 41, .inl (fun _ => 0)))] H := hP
  have hD : va_D A [(b, .inr (12, [.int 0, .ref q_1, .ref q_2, .ref q_3, .ref q_4, .int 0, .ref q_5, .int 0, .int 0, .int 0, .ref q_6, .ref q_7, .int 0, .ref q_8, .int 0, .int 0, .int 0, .int 0, .ref q_9, .null, .null, .null, .null, .int 0, .int 0])), (q_1, .inl (cA_1, 6792, .inl (fun _ => 0))), (q_2, .inl (cA_2, 8, .inr (.inr (.inr (.inr (fun i => if i < 8 then some (r_2 i) else none)))))), ((r_2 0), .inl (cA_1, 6792, .inl (fun _ => 0))), (q_3, .inl (cA_2, 2, .inr (.inr (.inr (.inr (fun i => if i < 2 then some (r_3 i) else none)))))), ((r_3 0), .inl (cA_1, 6792, .inl (fun _ => 0))), ((r_3 1), .inl (cA_1, 6792, .inl (fun _ => 0))), (q_4, .inl (cA_4, 2, .inl (fun _ => 0))), (q_5, .inl (cA_1, 200, .inl (fun _ => 0))), (q_6, .inl (cA_1, 41, .inl (fun _ => 0)))] := hD
  have hK : va_K D vwCl [(cA_1, .int), (cA_2, .array .int), (cA_4, .boolean)] s := hK
  refine W.widen (k := 1025) (n := 119328) (Nat.le_of_ble_eq_true rfl) (Nat.le_of_ble_eq_true rfl) ?_
  refine va_putF (D := D) (ci := 12) (v := .ref q_10) (ty := .array .int) (C := RX12) (T := TX12) (N := 25) hx hb ht zinX12 tyX12 tyX12_ok nmX12 hown hK hP hD hS 0 rfl rfl 19 (by decide) (ht _ zw_151) (fun _ h9 => h9) rfl hin rfl (by decide +kernel) rfl rfl (Nat.le_of_ble_eq_true rfl) dX12_init_100 (fun H locs hP hD hS => ?_)
  have hP : va_P D vwCl [(b, .inr (12, [.int 0, .ref q_1, .ref q_2, .ref q_3, .ref q_4, .int 0, .ref q_5, .int 0, .int 0, .int 0, .ref q_6, .ref q_7, .int 0, .ref q_8, .int 0, .int 0, .int 0, .int 0, .ref q_9, .ref q_10, .null, .null, .null, .int 0, .int 0])), (q_1, .inl (cA_1, 6792, .inl (fun _ => 0))), (q_2, .inl (cA_2, 8, .inr (.inr (.inr (.inr (fun i => if i < 8 then some (r_2 i) else none)))))), ((r_2 0), .inl (cA_1, 6792, .inl (fun _ => 0))), (q_3, .inl (cA_2, 2, .inr (.inr (.inr (.inr (fun i => if i < 2 then some (r_3 i) else none)))))), ((r_3 0), .inl (cA_1, 6792, .inl (fun _ => 0))), ((r_3 1), .inl (cA_1, 6792, .inl (fun _ => 0))), (q_4, .inl (cA_4, 2, .inl (fun _ => 0))), (q_5, .inl (cA_1, 200, .inl (fun _ => 0))), (q_6, .inl (cA_1, 41, .inl (fun _ => 0)))] H := hP
  have hD : va_D A [(b, .inr (12, [.int 0, .ref q_1, .ref q_2, .ref q_3, .ref q_4, .int 0, .ref q_5, .int 0, .int 0, .int 0, .ref q_6, .ref q_7, .int 0, .ref q_8, .int 0, .int 0, .int 0, .int 0, .ref q_9, .ref q_10, .null, .null, .null, .int 0, .int 0])), (q_1, .inl (cA_1, 6792, .inl (fun _ => 0))), (q_2, .inl (cA_2, 8, .inr (.inr (.inr (.inr (fun i => if i < 8 then some (r_2 i) else none)))))), ((r_2 0), .inl (cA_1, 6792, .inl (fun _ => 0))), (q_3, .inl (cA_2, 2, .inr (.inr (.inr (.inr (fun i => if i < 2 then some (r_3 i) else none)))))), ((r_3 0), .inl (cA_1, 6792, .inl (fun _ => 0))), ((r_3 1), .inl (cA_1, 6792, .inl (fun _ => 0))), (q_4, .inl (cA_4, 2, .inl (fun _ => 0))), (q_5, .inl (cA_1, 200, .inl (fun _ => 0))), (q_6, .inl (cA_1, 41, .inl (fun _ => 0)))] := hD
  refine lv_aload_n hx hb dX12_init_103 rfl (lv_at hl 0 rfl) ?_
  refine lv_sipush (v := 1001) hx hb dX12_init_104 (by decide) ?_
  refine va_newa (atype := .int) (a0 := (1001, .inl (fun _ => 0))) hx hb (ht _ zw_108) rfl hK hP hD hS hA (fun _ => rfl) (by decide) rfl (Nat.le_of_ble_eq_true rfl) (Nat.le_of_ble_eq_true rfl) (Nat.le_of_ble_eq_true rfl) dX12_init_107 (fun q_11 cA_11 H hK hP hD hS => ?_)
  have hcc : cA_1 = cA_11 := za_same hK 0 3 rfl rfl
  subst hcc
  have hK := hK.sub (tys' := [(cA_1, .int), (cA_2, .array .int), (cA_4, .boolean)]) [0, 1, 2] rfl
  have hP := hP.sub (ws' := [(b, .inr (12, [.int 0, .ref q_1, .ref q_2, .ref q_3, .ref q_4, .int 0, .ref q_5, .int 0, .int 0, .int 0, .ref q_6, .ref q_7, .int 0, .ref q_8, .int 0, .int 0, .int 0, .int 0, .ref q_9, .ref q_10, .null, .null, .null, .int 0, .int 0])), (q_1, .inl (cA_1, 6792, .inl (fun _ => 0))), (q_2, .inl (cA_2, 8, .inr (.inr (.inr (.inr (fun i => if i < 8 then some (r_2 i) else none)))))), ((r_2 0), .inl (cA_1, 6792, .inl (fun _ => 0))), (q_3, .inl (cA_2, 2, .inr (.inr (.inr (.inr (fun i => if i < 2 then some (r_3 i) else none)))))), ((r_3 0), .inl (cA_1, 6792, .inl (fun _ => 0))), ((r_3 1), .inl (cA_1, 6792, .inl (fun _ => 0))), (q_4, .inl (cA_4, 2, .inl (fun _ => 0))), (q_5, .inl (cA_1, 200, .inl (fun _ => 0))), (q_6, .inl (cA_1, 41, .inl (fun _ => 0)))]) [0, 1, 2, 3, 4, 5, 6, 7, 8, 9] rfl
  have hD := hD.sub (ws' := [(b, .inr (12, [.int 0, .ref q_1, .ref q_2, .ref q_3, .ref q_4, .int 0, .ref q_5, .int 0, .int 0, .int 0, .ref q_6, .ref q_7, .int 0, .ref q_8, .int 0, .int 0, .int 0, .int 0, .ref q_9, .ref q_10, .null, .null, .null, .int 0, .int 0])), (q_1, .inl (cA_1, 6792, .inl (fun _ => 0))), (q_2, .inl (cA_2, 8, .inr (.inr (.inr (.inr (fun i => if i < 8 then some (r_2 i) else none)))))), ((r_2 0), .inl (cA_1, 6792, .inl (fun _ => 0))), (q_3, .inl (cA_2, 2, .inr (.inr (.inr (.inr (fun i => if i < 2 then some (r_3 i) else none)))))), ((r_3 0), .inl (cA_1, 6792, .inl (fun _ => 0))), ((r_3 1), .inl (cA_1, 6792, .inl (fun _ => 0))), (q_4, .inl (cA_4, 2, .inl (fun _ => 0))), (q_5, .inl (cA_1, 200, .inl (fun _ => 0))), (q_6, .inl (cA_1, 41, .inl (fun _ => 0)))]) [0, 1, 2, 3, 4, 5, 6, 7, 8, 9] (by decide) rfl
  have hP : va_P D vwCl [(b, .inr (12, [.int 0, .ref q_1, .ref q_2, .ref q_3, .ref q_4, .int 0, .ref q_5, .int 0, .int 0, .int 0, .ref q_6, .ref q_7, .int 0, .ref q_8, .int 0, .int 0, .int 0, .int 0, .ref q_9, .ref q_10, .null, .null, .null, .int 0, .int 0])), (q_1, .inl (cA_1, 6792, .inl (fun _ => 0))), (q_2, .inl (cA_2, 8, .inr (.inr (.inr (.inr (fun i => if i < 8 then some (r_2 i) else none)))))), ((r_2 0), .inl (cA_1, 6792, .inl (fun _ => 0))), (q_3, .inl (cA_2, 2, .inr (.inr (.inr (.inr (fun i => if i < 2 then some (r_3 i) else none)))))), ((r_3 0), .inl (cA_1, 6792, .inl (fun _ => 0))), ((r_3 1), .inl (cA_1, 6792, .inl (fun _ => 0))), (q_4, .inl (cA_4, 2, .inl (fun _ => 0))), (q_5, .inl (cA_1, 200, .inl (fun _ => 0))), (q_6, .inl (cA_1, 41, .inl (fun _ => 0)))] H := hP
  have hD : va_D A [(b, .inr (12, [.int 0, .ref q_1, .ref q_2, .ref q_3, .ref q_4, .int 0, .ref q_5, .int 0, .int 0, .int 0, .ref q_6, .ref q_7, .int 0, .ref q_8, .int 0, .int 0, .int 0, .int 0, .ref q_9, .ref q_10, .null, .null, .null, .int 0, .int 0])), (q_1, .inl (cA_1, 6792, .inl (fun _ => 0))), (q_2, .inl (cA_2, 8, .inr (.inr (.inr (.inr (fun i => if i < 8 then some (r_2 i) else none)))))), ((r_2 0), .inl (cA_1, 6792, .inl (fun _ => 0))), (q_3, .inl (cA_2, 2, .inr (.inr (.inr (.inr (fun i => if i < 2 then some (r_3 i) else none)))))), ((r_3 0), .inl (cA_1, 6792, .inl (fun _ => 0))), ((r_3 1), .inl (cA_1, 6792, .inl (fun _ => 0))), (q_4, .inl (cA_4, 2, .inl (fun _ => 0))), (q_5, .inl (cA_1, 200, .inl (fun _ => 0))), (q_6, .inl (cA_1, 41, .inl (fun _ => 0)))] := hD
  have hK : va_K D vwCl [(cA_1, .int), (cA_2, .array .int), (cA_4, .boolean)] s := hK
  refine W.widen (k := 1026) (n := 120329) (Nat.le_of_ble_eq_true rfl) (Nat.le_of_ble_eq_true rfl) ?_
  refine va_putF (D := D) (ci := 12) (v := .ref q_11) (ty := .array .int) (C := RX12) (T := TX12) (N := 25) hx hb ht zinX12 tyX12 tyX12_ok nmX12 hown hK hP hD hS 0 rfl rfl 20 (by decide) (ht _ zw_152) (fun _ h9 => h9) rfl hin rfl (by decide +kernel) rfl rfl (Nat.le_of_ble_eq_true rfl) dX12_init_109 (fun H locs hP hD hS => ?_)
  have hP : va_P D vwCl [(b, .inr (12, [.int 0, .ref q_1, .ref q_2, .ref q_3, .ref q_4, .int 0, .ref q_5, .int 0, .int 0, .int 0, .ref q_6, .ref q_7, .int 0, .ref q_8, .int 0, .int 0, .int 0, .int 0, .ref q_9, .ref q_10, .ref q_11, .null, .null, .int 0, .int 0])), (q_1, .inl (cA_1, 6792, .inl (fun _ => 0))), (q_2, .inl (cA_2, 8, .inr (.inr (.inr (.inr (fun i => if i < 8 then some (r_2 i) else none)))))), ((r_2 0), .inl (cA_1, 6792, .inl (fun _ => 0))), (q_3, .inl (cA_2, 2, .inr (.inr (.inr (.inr (fun i => if i < 2 then some (r_3 i) else none)))))), ((r_3 0), .inl (cA_1, 6792, .inl (fun _ => 0))), ((r_3 1), .inl (cA_1, 6792, .inl (fun _ => 0))), (q_4, .inl (cA_4, 2, .inl (fun _ => 0))), (q_5, .inl (cA_1, 200, .inl (fun _ => 0))), (q_6, .inl (cA_1, 41, .inl (fun _ => 0)))] H := hP
  have hD : va_D A [(b, .inr (12, [.int 0, .ref q_1, .ref q_2, .ref q_3, .ref q_4, .int 0, .ref q_5, .int 0, .int 0, .int 0, .ref q_6, .ref q_7, .int 0, .ref q_8, .int 0, .int 0, .int 0, .int 0, .ref q_9, .ref q_10, .ref q_11, .null, .null, .int 0, .int 0])), (q_1, .inl (cA_1, 6792, .inl (fun _ => 0))), (q_2, .inl (cA_2, 8, .inr (.inr (.inr (.inr (fun i => if i < 8 then some (r_2 i) else none)))))), ((r_2 0), .inl (cA_1, 6792, .inl (fun _ => 0))), (q_3, .inl (cA_2, 2, .inr (.inr (.inr (.inr (fun i => if i < 2 then some (r_3 i) else none)))))), ((r_3 0), .inl (cA_1, 6792, .inl (fun _ => 0))), ((r_3 1), .inl (cA_1, 6792, .inl (fun _ => 0))), (q_4, .inl (cA_4, 2, .inl (fun _ => 0))), (q_5, .inl (cA_1, 200, .inl (fun _ => 0))), (q_6, .inl (cA_1, 41, .inl (fun _ => 0)))] := hD
  refine lv_aload_n hx hb dX12_init_112 rfl (lv_at hl 0 rfl) ?_
  refine lv_sipush (v := 1024) hx hb dX12_init_113 (by decide) ?_
  refine va_newa (atype := .int) (a0 := (1024, .inl (fun _ => 0))) hx hb (ht _ zw_108) rfl hK hP hD hS hA (fun _ => rfl) (by decide) rfl (Nat.le_of_ble_eq_true rfl) (Nat.le_of_ble_eq_true rfl) (Nat.le_of_ble_eq_true rfl) dX12_init_116 (fun q_12 cA_12 H hK hP hD hS => ?_)
  have hcc : cA_1 = cA_12 := za_same hK 0 3 rfl rfl
  subst hcc
  have hK := hK.sub (tys' := [(cA_1, .int), (cA_2, .array .int), (cA_4, .boolean)]) [0, 1, 2] rfl
  have hP := hP.sub (ws' := [(b, .inr (12, [.int 0, .ref q_1, .ref q_2, .ref q_3, .ref q_4, .int 0, .ref q_5, .int 0, .int 0, .int 0, .ref q_6, .ref q_7, .int 0, .ref q_8, .int 0, .int 0, .int 0, .int 0, .ref q_9, .ref q_10, .ref q_11, .null, .null, .int 0, .int 0])), (q_1, .inl (cA_1, 6792, .inl (fun _ => 0))), (q_2, .inl (cA_2, 8, .inr (.inr (.inr (.inr (fun i => if i < 8 then some (r_2 i) else none)))))), ((r_2 0), .inl (cA_1, 6792, .inl (fun _ => 0))), (q_3, .inl (cA_2, 2, .inr (.inr (.inr (.inr (fun i => if i < 2 then some (r_3 i) else none)))))), ((r_3 0), .inl (cA_1, 6792, .inl (fun _ => 0))), ((r_3 1), .inl (cA_1, 6792, .inl (fun _ => 0))), (q_4, .inl (cA_4, 2, .inl (fun _ => 0))), (q_5, .inl (cA_1, 200, .inl (fun _ => 0))), (q_6, .inl (cA_1, 41, .inl (fun _ => 0)))]) [0, 1, 2, 3, 4, 5, 6, 7, 8, 9] rfl
  have hD := hD.sub (ws' := [(b, .inr (12, [.int 0, .ref q_1, .ref q_2, .ref q_3, .ref q_4, .int 0, .ref q_5, .int 0, .int 0, .int 0, .ref q_6, .ref q_7, .int 0, .ref q_8, .int 0, .int 0, .int 0, .int 0, .ref q_9, .ref q_10, .ref q_11, .null, .null, .int 0, .int 0])), (q_1, .inl (cA_1, 6792, .inl (fun _ => 0))), (q_2, .inl (cA_2, 8, .inr (.inr (.inr (.inr (fun i => if i < 8 then some (r_2 i) else none)))))), ((r_2 0), .inl (cA_1, 6792, .inl (fun _ => 0))), (q_3, .inl (cA_2, 2, .inr (.inr (.inr (.inr (fun i => if i < 2 then some (r_3 i) else none)))))), ((r_3 0), .inl (cA_1, 6792, .inl (fun _ => 0))), ((r_3 1), .inl (cA_1, 6792, .inl (fun _ => 0))), (q_4, .inl (cA_4, 2, .inl (fun _ => 0))), (q_5, .inl (cA_1, 200, .inl (fun _ => 0))), (q_6, .inl (cA_1, 41, .inl (fun _ => 0)))]) [0, 1, 2, 3, 4, 5, 6, 7, 8, 9] (by decide) rfl
  have hP : va_P D vwCl [(b, .inr (12, [.int 0, .ref q_1, .ref q_2, .ref q_3, .ref q_4, .int 0, .ref q_5, .int 0, .int 0, .int 0, .ref q_6, .ref q_7, .int 0, .ref q_8, .int 0, .int 0, .int 0, .int 0, .ref q_9, .ref q_10, .ref q_11, .null, .null, .int 0, .int 0])), (q_1, .inl (cA_1, 6792, .inl (fun _ => 0))), (q_2, .inl (cA_2, 8, .inr (.inr (.inr (.inr (fun i => if i < 8 then some (r_2 i) else none)))))), ((r_2 0), .inl (cA_1, 6792, .inl (fun _ => 0))), (q_3, .inl (cA_2, 2, .inr (.inr (.inr (.inr (fun i => if i < 2 then some (r_3 i) else none)))))), ((r_3 0), .inl (cA_1, 6792, .inl (fun _ => 0))), ((r_3 1), .inl (cA_1, 6792, .inl (fun _ => 0))), (q_4, .inl (cA_4, 2, .inl (fun _ => 0))), (q_5, .inl (cA_1, 200, .inl (fun _ => 0))), (q_6, .inl (cA_1, 41, .inl (fun _ => 0)))] H := hP
  have hD : va_D A [(b, .inr (12, [.int 0, .ref q_1, .ref q_2, .ref q_3, .ref q_4, .int 0, .ref q_5, .int 0, .int 0, .int 0, .ref q_6, .ref q_7, .int 0, .ref q_8, .int 0, .int 0, .int 0, .int 0, .ref q_9, .ref q_10, .ref q_11, .null, .null, .int 0, .int 0])), (q_1, .inl (cA_1, 6792, .inl (fun _ => 0))), (q_2, .inl (cA_2, 8, .inr (.inr (.inr (.inr (fun i => if i < 8 then some (r_2 i) else none)))))), ((r_2 0), .inl (cA_1, 6792, .inl (fun _ => 0))), (q_3, .inl (cA_2, 2, .inr (.inr (.inr (.inr (fun i => if i < 2 then some (r_3 i) else none)))))), ((r_3 0), .inl (cA_1, 6792, .inl (fun _ => 0))), ((r_3 1), .inl (cA_1, 6792, .inl (fun _ => 0))), (q_4, .inl (cA_4, 2, .inl (fun _ => 0))), (q_5, .inl (cA_1, 200, .inl (fun _ => 0))), (q_6, .inl (cA_1, 41, .inl (fun _ => 0)))] := hD
  have hK : va_K D vwCl [(cA_1, .int), (cA_2, .array .int), (cA_4, .boolean)] s := hK
  refine W.widen (k := 1027) (n := 121353) (Nat.le_of_ble_eq_true rfl) (Nat.le_of_ble_eq_true rfl) ?_
  refine va_putF (D := D) (ci := 12) (v := .ref q_12) (ty := .array .int) (C := RX12) (T := TX12) (N := 25) hx hb ht zinX12 tyX12 tyX12_ok nmX12 hown hK hP hD hS 0 rfl rfl 21 (by decide) (ht _ zw_153) (fun _ h9 => h9) rfl hin rfl (by decide +kernel) rfl rfl (Nat.le_of_ble_eq_true rfl) dX12_init_118 (fun H locs hP hD hS => ?_)
  have hP : va_P D vwCl [(b, .inr (12, [.int 0, .ref q_1, .ref q_2, .ref q_3, .ref q_4, .int 0, .ref q_5, .int 0, .int 0, .int 0, .ref q_6, .ref q_7, .int 0, .ref q_8, .int 0, .int 0, .int 0, .int 0, .ref q_9, .ref q_10, .ref q_11, .ref q_12, .null, .int 0, .int 0])), (q_1, .inl (cA_1, 6792, .inl (fun _ => 0))), (q_2, .inl (cA_2, 8, .inr (.inr (.inr (.inr (fun i => if i < 8 then some (r_2 i) else none)))))), ((r_2 0), .inl (cA_1, 6792, .inl (fun _ => 0))), (q_3, .inl (cA_2, 2, .inr (.inr (.inr (.inr (fun i => if i < 2 then some (r_3 i) else none)))))), ((r_3 0), .inl (cA_1, 6792, .inl (fun _ => 0))), ((r_3 1), .inl (cA_1, 6792, .inl (fun _ => 0))), (q_4, .inl (cA_4, 2, .inl (fun _ => 0))), (q_5, .inl (cA_1, 200, .inl (fun _ => 0))), (q_6, .inl (cA_1, 41, .inl (fun _ => 0)))] H := hP
  have hD : va_D A [(b, .inr (12, [.int 0, .ref q_1, .ref q_2, .ref q_3, .ref q_4, .int 0, .ref q_5, .int 0, .int 0, .int 0, .ref q_6, .ref q_7, .int 0, .ref q_8, .int 0, .int 0, .int 0, .int 0, .ref q_9, .ref q_10, .ref q_11, .ref q_12, .null, .int 0, .int 0])), (q_1, .inl (cA_1, 6792, .inl (fun _ => 0))), (q_2, .inl (cA_2, 8, .inr (.inr (.inr (.inr (fun i => if i < 8 then some (r_2 i) else none)))))), ((r_2 0), .inl (cA_1, 6792, .inl (fun _ => 0))), (q_3, .inl (cA_2, 2, .inr (.inr (.inr (.inr (fun i => if i < 2 then some (r_3 i) else none)))))), ((r_3 0), .inl (cA_1, 6792, .inl (fun _ => 0))), ((r_3 1), .inl (cA_1, 6792, .inl (fun _ => 0))), (q_4, .inl (cA_4, 2, .inl (fun _ => 0))), (q_5, .inl (cA_1, 200, .inl (fun _ => 0))), (q_6, .inl (cA_1, 41, .inl (fun _ => 0)))] := hD
  refine lv_aload_n hx hb dX12_init_121 rfl (lv_at hl 0 rfl) ?_
  refine lv_sipush (v := 1001) hx hb dX12_init_122 (by decide) ?_
  refine va_newa (atype := .int) (a0 := (1001, .inl (fun _ => 0))) hx hb (ht _ zw_108) rfl hK hP hD hS hA (fun _ => rfl) (by decide) rfl (Nat.le_of_ble_eq_true rfl) (Nat.le_of_ble_eq_true rfl) (Nat.le_of_ble_eq_true rfl) dX12_init_125 (fun q_13 cA_13 H hK hP hD hS => ?_)
  have hcc : cA_1 = cA_13 := za_same hK 0 3 rfl rfl
  subst hcc
  have hK := hK.sub (tys' := [(cA_1, .int), (cA_2, .array .int), (cA_4, .boolean)]) [0, 1, 2] rfl
  have hP := hP.sub (ws' := [(b, .inr (12, [.int 0, .ref q_1, .ref q_2, .ref q_3, .ref q_4, .int 0, .ref q_5, .int 0, .int 0, .int 0, .ref q_6, .ref q_7, .int 0, .ref q_8, .int 0, .int 0, .int 0, .int 0, .ref q_9, .ref q_10, .ref q_11, .ref q_12, .null, .int 0, .int 0])), (q_1, .inl (cA_1, 6792, .inl (fun _ => 0))), (q_2, .inl (cA_2, 8, .inr (.inr (.inr (.inr (fun i => if i < 8 then some (r_2 i) else none)))))), ((r_2 0), .inl (cA_1, 6792, .inl (fun _ => 0))), (q_3, .inl (cA_2, 2, .inr (.inr (.inr (.inr (fun i => if i < 2 then some (r_3 i) else none)))))), ((r_3 0), .inl (cA_1, 6792, .inl (fun _ => 0))), ((r_3 1), .inl (cA_1, 6792, .inl (fun _ => 0))), (q_4, .inl (cA_4, 2, .inl (fun _ => 0))), (q_5, .inl (cA_1, 200, .inl (fun _ => 0))), (q_6, .inl (cA_1, 41, .inl (fun _ => 0)))]) [0, 1, 2, 3, 4, 5, 6, 7, 8, 9] rfl
  have hD := hD.sub (ws' := [(b, .inr (12, [.int 0, .ref q_1, .ref q_2, .ref q_3, .ref q_4, .int 0, .ref q_5, .int 0, .int 0, .int 0, .ref q_6, .ref q_7, .int 0, .ref q_8, .int 0, .int 0, .int 0, .int 0, .ref q_9, .ref q_10, .ref q_11, .ref q_12, .null, .int 0, .int 0])), (q_1, .inl (cA_1, 6792, .inl (fun _ => 0))), (q_2, .inl (cA_2, 8, .inr (.inr (.inr (.inr (fun i => if i < 8 then some (r_2 i) else none)))))), ((r_2 0), .inl (cA_1, 6792, .inl (fun _ => 0))), (q_3, .inl (cA_2, 2, .inr (.inr (.inr (.inr (fun i => if i < 2 then some (r_3 i) else none)))))), ((r_3 0), .inl (cA_1, 6792, .inl (fun _ => 0))), ((r_3 1), .inl (cA_1, 6792, .inl (fun _ => 0))), (q_4, .inl (cA_4, 2, .inl (fun _ => 0))), (q_5, .inl (cA_1, 200, .inl (fun _ => 0))), (q_6, .inl (cA_1, 41, .inl (fun _ => 0)))]) [0, 1, 2, 3, 4, 5, 6, 7, 8, 9] (by decide) rfl
  have hP : va_P D vwCl [(b, .inr (12, [.int 0, .ref q_1, .ref q_2, .ref q_3, .ref q_4, .int 0, .ref q_5, .int 0, .int 0, .int 0, .ref q_6, .ref q_7, .int 0, .ref q_8, .int 0, .int 0, .int 0, .int 0, .ref q_9, .ref q_10, .ref q_11, .ref q_12, .null, .int 0, .int 0])), (q_1, .inl (cA_1, 6792, .inl (fun _ => 0))), (q_2, .inl (cA_2, 8, .inr (.inr (.inr (.inr (fun i => if i < 8 then some (r_2 i) else none)))))), ((r_2 0), .inl (cA_1, 6792, .inl (fun _ => 0))), (q_3, .inl (cA_2, 2, .inr (.inr (.inr (.inr (fun i => if i < 2 then some (r_3 i) else none)))))), ((r_3 0), .inl (cA_1, 6792, .inl (fun _ => 0))), ((r_3 1), .inl (cA_1, 6792, .inl (fun _ => 0))), (q_4, .inl (cA_4, 2, .inl (fun _ => 0))), (q_5, .inl (cA_1, 200, .inl (fun _ => 0))), (q_6, .inl (cA_1, 41, .inl (fun _ => 0)))] H := hP
  have hD : va_D A [(b, .inr (12, [.int 0, .ref q_1, .ref q_2, .ref q_3, .ref q_4, .int 0, .ref q_5, .int 0, .int 0, .int 0, .ref q_6, .ref q_7, .int 0, .ref q_8, .int 0, .int 0, .int 0, .int 0, .ref q_9, .ref q_10, .ref q_11, .ref q_12, .null, .int 0, .int 0])), (q_1, .inl (cA_1, 6792, .inl (fun _ => 0))), (q_2, .inl (cA_2, 8, .inr (.inr (.inr (.inr (fun i => if i < 8 then some (r_2 i) else none)))))), ((r_2 0), .inl (cA_1, 6792, .inl (fun _ => 0))), (q_3, .inl (cA_2, 2, .inr (.inr (.inr (.inr (fun i => if i < 2 then some (r_3 i) else none)))))), ((r_3 0), .inl (cA_1, 6792, .inl (fun _ => 0))), ((r_3 1), .inl (cA_1, 6792, .inl (fun _ => 0))), (q_4, .inl (cA_4, 2, .inl (fun _ => 0))), (q_5, .inl (cA_1, 200, .inl (fun _ => 0))), (q_6, .inl (cA_1, 41, .inl (fun _ => 0)))] := hD
  have hK : va_K D vwCl [(cA_1, .int), (cA_2, .array .int), (cA_4, .boolean)] s := hK
  refine W.widen (k := 1028) (n := 122354) (Nat.le_of_ble_eq_true rfl) (Nat.le_of_ble_eq_true rfl) ?_
  refine va_putF (D := D) (ci := 12) (v := .ref q_13) (ty := .array .int) (C := RX12) (T := TX12) (N := 25) hx hb ht zinX12 tyX12 tyX12_ok nmX12 hown hK hP hD hS 0 rfl rfl 22 (by decide) (ht _ zw_154) (fun _ h9 => h9) rfl hin rfl (by decide +kernel) rfl rfl (Nat.le_of_ble_eq_true rfl) dX12_init_127 (fun H locs hP hD hS => ?_)
  have hP : va_P D vwCl [(b, .inr (12, [.int 0, .ref q_1, .ref q_2, .ref q_3, .ref q_4, .int 0, .ref q_5, .int 0, .int 0, .int 0, .ref q_6, .ref q_7, .int 0, .ref q_8, .int 0, .int 0, .int 0, .int 0, .ref q_9, .ref q_10, .ref q_11, .ref q_12, .ref q_13, .int 0, .int 0])), (q_1, .inl (cA_1, 6792, .inl (fun _ => 0))), (q_2, .inl (cA_2, 8, .inr (.inr (.inr (.inr (fun i => if i < 8 then some (r_2 i) else none)))))), ((r_2 0), .inl (cA_1, 6792, .inl (fun _ => 0))), (q_3, .inl (cA_2, 2, .inr (.inr (.inr (.inr (fun i => if i < 2 then some (r_3 i) else none)))))), ((r_3 0), .inl (cA_1, 6792, .inl (fun _ => 0))), ((r_3 1), .inl (cA_1, 6792, .inl (fun _ => 0))), (q_4, .inl (cA_4, 2, .inl (fun _ => 0))), (q_5, .inl (cA_1, 200, .inl (fun _ => 0))), (q_6, .inl (cA_1, 41, .inl (fun _ => 0)))] H := hP
  have hD : va_D A [(b, .inr (12, [.int 0, .ref q_1, .ref q_2, .ref q_3, .ref q_4, .int 0, .ref q_5, .int 0, .int 0, .int 0, .ref q_6, .ref q_7, .int 0, .ref q_8, .int 0, .int 0, .int 0, .int 0, .ref q_9, .ref q_10, .ref q_11, .ref q_12, .ref q_13, .int 0, .int 0])), (q_1, .inl (cA_1, 6792, .inl (fun _ => 0))), (q_2, .inl (cA_2, 8, .inr (.inr (.inr (.inr (fun i => if i < 8 then some (r_2 i) else none)))))), ((r_2 0), .inl (cA_1, 6792, .inl (fun _ => 0))), (q_3, .inl (cA_2, 2, .inr (.inr (.inr (.inr (fun i => if i < 2 then some (r_3 i) else none)))))), ((r_3 0), .inl (cA_1, 6792, .inl (fun _ => 0))), ((r_3 1), .inl (cA_1, 6792, .inl (fun _ => 0))), (q_4, .inl (cA_4, 2, .inl (fun _ => 0))), (q_5, .inl (cA_1, 200, .inl (fun _ => 0))), (q_6, .inl (cA_1, 41, .inl (fun _ => 0)))] := hD
  have hP9 := hP.sub (ws' := [(b, .inr (12, [.int 0, .ref q_1, .ref q_2, .ref q_3, .ref q_4, .int 0, .ref q_5, .int 0, .int 0, .int 0, .ref q_6, .ref q_7, .int 0, .ref q_8, .int 0, .int 0, .int 0, .int 0, .ref q_9, .ref q_10, .ref q_11, .ref q_12, .ref q_13, .int 0, .int 0])), (q_1, .inl (cA_1, 6792, .inl (fun _ => 0))), (q_2, .inl (cA_2, 8, .inr (.inr (.inr (.inr (fun i => if i < 8 then some (r_2 i) else none)))))), ((r_2 0), .inl (cA_1, 6792, .inl (fun _ => 0))), (q_3, .inl (cA_2, 2, .inr (.inr (.inr (.inr (fun i => if i < 2 then some (r_3 i) else none)))))), ((r_3 0), .inl (cA_1, 6792, .inl (fun _ => 0))), ((r_3 1), .inl (cA_1, 6792, .inl (fun _ => 0))), (q_4, .inl (cA_4, 2, .inl (fun _ => 0))), (q_5, .inl (cA_1, 200, .inl (fun _ => 0))), (q_6, .inl (cA_1, 41, .inl (fun _ => 0)))]) [0, 1, 2, 3, 4, 5, 6, 7, 8, 9] rfl
  have hD9 := hD.sub (ws' := [(b, .inr (12, [.int 0, .ref q_1, .ref q_2, .ref q_3, .ref q_4, .int 0, .ref q_5, .int 0, .int 0, .int 0, .ref q_6, .ref q_7, .int 0, .ref q_8, .int 0, .int 0, .int 0, .int 0, .ref q_9, .ref q_10, .ref q_11, .ref q_12, .ref q_13, .int 0, .int 0])), (q_1, .inl (cA_1, 6792, .inl (fun _ => 0))), (q_2, .inl (cA_2, 8, .inr (.inr (.inr (.inr (fun i => if i < 8 then some (r_2 i) else none)))))), ((r_2 0), .inl (cA_1, 6792, .inl (fun _ => 0))), (q_3, .inl (cA_2, 2, .inr (.inr (.inr (.inr (fun i => if i < 2 then some (r_3 i) else none)))))), ((r_3 0), .inl (cA_1, 6792, .inl (fun _ => 0))), ((r_3 1), .inl (cA_1, 6792, .inl (fun _ => 0))), (q_4, .inl (cA_4, 2, .inl (fun _ => 0))), (q_5, .inl (cA_1, 200, .inl (fun _ => 0))), (q_6, .inl (cA_1, 41, .inl (fun _ => 0)))]) [0, 1, 2, 3, 4, 5, 6, 7, 8, 9] (by decide) rfl
  have hK9 := hK.sub (tys' := [(cA_1, .int), (cA_2, .array .int), (cA_4, .boolean)]) [0, 1, 2] rfl
  refine W.widen (k := 1028) (n := 122354) (Nat.le_of_ble_eq_true rfl) (Nat.le_of_ble_eq_true rfl) ?_
  exact W.vret hx hb hr (fun t ht0 hW => ⟨⟨(), rfl, trivial, zAd [b, q_1, q_2, q_3, q_4, 0, q_5, 0, 0, 0, q_6, q_7, 0, q_8, 0, 0, 0, 0, q_9, q_10, q_11, q_12, q_13, 0, 0, 0, 0, 0, 0, 0, (r_2 0), (r_3 0), (r_3 1)], cA_1, cA_2, cA_4, (fun i => if i < 8 then some (r_2 i) else none), (fun i => if i < 2 then some (r_3 i) else none), rfl, rfl, rfl, rfl, zE_of hP9 hK9 hD9 ht0 hW⟩, hS.F ht0⟩) hS.2.2 dX12_init_130
