abbrev cX12_thrown : ByteArray := prog_14_method_2_code
def yX12_thrown : MethodName := ⟨RX12, "thrown", "()I"⟩
theorem dX12_thrown_0 : decode cX12_thrown 0 = .ok (.aload_n 0, 1) := by decide +kernel
theorem dX12_thrown_1 : decode cX12_thrown 1 = .ok (.getfield 52, 3) := by decide +kernel
theorem dX12_thrown_4 : decode cX12_thrown 4 = .ok (.ireturn, 1) := by decide +kernel
abbrev cX12_signs : ByteArray := prog_14_method_106_code
def yX12_signs : MethodName := ⟨RX12, "signs", "()I"⟩
theorem dX12_signs_0 : decode cX12_signs 0 = .ok (.aload_n 0, 1) := by decide +kernel
theorem dX12_signs_1 : decode cX12_signs 1 = .ok (.iconst 0, 1) := by decide +kernel
theorem dX12_signs_2 : decode cX12_signs 2 = .ok (.putfield 52, 3) := by decide +kernel
theorem dX12_signs_5 : decode cX12_signs 5 = .ok (.aload_n 0, 1) := by decide +kernel
theorem dX12_signs_6 : decode cX12_signs 6 = .ok (.getfield 9, 3) := by decide +kernel
theorem dX12_signs_9 : decode cX12_signs 9 = .ok (.iconst 0, 1) := by decide +kernel
theorem dX12_signs_10 : decode cX12_signs 10 = .ok (.iaload, 1) := by decide +kernel
theorem dX12_signs_11 : decode cX12_signs 11 = .ok (.ireturn, 1) := by decide +kernel
abbrev cX12_laws : ByteArray := prog_14_method_110_code
def yX12_laws : MethodName := ⟨RX12, "laws", "()I"⟩
theorem dX12_laws_0 : decode cX12_laws 0 = .ok (.aload_n 0, 1) := by decide +kernel
theorem dX12_laws_1 : decode cX12_laws 1 = .ok (.iconst 0, 1) := by decide +kernel
theorem dX12_laws_2 : decode cX12_laws 2 = .ok (.putfield 52, 3) := by decide +kernel
theorem dX12_laws_5 : decode cX12_laws 5 = .ok (.aload_n 0, 1) := by decide +kernel
theorem dX12_laws_6 : decode cX12_laws 6 = .ok (.invokevirtual 112, 3) := by decide +kernel
theorem dX12_laws_9 : decode cX12_laws 9 = .ok (.ireturn, 1) := by decide +kernel
abbrev cX12_open : ByteArray := prog_14_method_114_code
def yX12_open : MethodName := ⟨RX12, "open", "()I"⟩
theorem dX12_open_0 : decode cX12_open 0 = .ok (.aload_n 0, 1) := by decide +kernel
theorem dX12_open_1 : decode cX12_open 1 = .ok (.iconst 0, 1) := by decide +kernel
theorem dX12_open_2 : decode cX12_open 2 = .ok (.putfield 52, 3) := by decide +kernel
theorem dX12_open_5 : decode cX12_open 5 = .ok (.aload_n 0, 1) := by decide +kernel
theorem dX12_open_6 : decode cX12_open 6 = .ok (.invokevirtual 135, 3) := by decide +kernel
theorem dX12_open_9 : decode cX12_open 9 = .ok (.ireturn, 1) := by decide +kernel
abbrev cX12_clearText : ByteArray := prog_14_method_95_code
def yX12_clearText : MethodName := ⟨RX12, "clearText", "()I"⟩
theorem dX12_clearText_0 : decode cX12_clearText 0 = .ok (.aload_n 0, 1) := by decide +kernel
theorem dX12_clearText_1 : decode cX12_clearText 1 = .ok (.iconst 0, 1) := by decide +kernel
theorem dX12_clearText_2 : decode cX12_clearText 2 = .ok (.putfield 52, 3) := by decide +kernel
theorem dX12_clearText_5 : decode cX12_clearText 5 = .ok (.aload_n 0, 1) := by decide +kernel
theorem zw_110 : Cond.fieldLink RX12 328 RX12 "textLength" "I" ∈ zT := zT_of 1495 (by decide +kernel) (by decide +kernel)
theorem dX12_clearText_6 : decode cX12_clearText 6 = .ok (.getfield 328, 3) := by decide +kernel
theorem dX12_clearText_9 : decode cX12_clearText 9 = .ok (.istore_n 1, 1) := by decide +kernel
theorem dX12_clearText_10 : decode cX12_clearText 10 = .ok (.aload_n 0, 1) := by decide +kernel
theorem dX12_clearText_11 : decode cX12_clearText 11 = .ok (.iconst 0, 1) := by decide +kernel
theorem dX12_clearText_12 : decode cX12_clearText 12 = .ok (.putfield 328, 3) := by decide +kernel
theorem dX12_clearText_15 : decode cX12_clearText 15 = .ok (.iload_n 1, 1) := by decide +kernel
theorem dX12_clearText_16 : decode cX12_clearText 16 = .ok (.ireturn, 1) := by decide +kernel
abbrev cX12_meanLines : ByteArray := prog_14_method_130_code
def yX12_meanLines : MethodName := ⟨RX12, "meanLines", "()D"⟩
theorem dX12_meanLines_0 : decode cX12_meanLines 0 = .ok (.aload_n 0, 1) := by decide +kernel
theorem dX12_meanLines_1 : decode cX12_meanLines 1 = .ok (.iconst 0, 1) := by decide +kernel
theorem dX12_meanLines_2 : decode cX12_meanLines 2 = .ok (.putfield 52, 3) := by decide +kernel
theorem dX12_meanLines_5 : decode cX12_meanLines 5 = .ok (.iconst 0, 1) := by decide +kernel
theorem dX12_meanLines_6 : decode cX12_meanLines 6 = .ok (.istore_n 1, 1) := by decide +kernel
theorem dX12_meanLines_7 : decode cX12_meanLines 7 = .ok (.iconst 0, 1) := by decide +kernel
theorem dX12_meanLines_8 : decode cX12_meanLines 8 = .ok (.istore_n 2, 1) := by decide +kernel
theorem dX12_meanLines_9 : decode cX12_meanLines 9 = .ok (.iconst 0, 1) := by decide +kernel
theorem dX12_meanLines_10 : decode cX12_meanLines 10 = .ok (.istore_n 3, 1) := by decide +kernel
theorem dX12_meanLines_11 : decode cX12_meanLines 11 = .ok (.iload_n 3, 1) := by decide +kernel
theorem dX12_meanLines_12 : decode cX12_meanLines 12 = .ok (.iconst 4, 1) := by decide +kernel
theorem dX12_meanLines_13 : decode cX12_meanLines 13 = .ok (.if_icmp .ge 33, 3) := by decide +kernel
theorem dX12_meanLines_16 : decode cX12_meanLines 16 = .ok (.iload_n 1, 1) := by decide +kernel
theorem dX12_meanLines_17 : decode cX12_meanLines 17 = .ok (.aload_n 0, 1) := by decide +kernel
theorem dX12_meanLines_18 : decode cX12_meanLines 18 = .ok (.iload_n 3, 1) := by decide +kernel
theorem dX12_meanLines_19 : decode cX12_meanLines 19 = .ok (.invokevirtual 202, 3) := by decide +kernel
theorem dX12_meanLines_22 : decode cX12_meanLines 22 = .ok (.iadd, 1) := by decide +kernel
theorem dX12_meanLines_23 : decode cX12_meanLines 23 = .ok (.istore_n 1, 1) := by decide +kernel
theorem dX12_meanLines_24 : decode cX12_meanLines 24 = .ok (.iload_n 2, 1) := by decide +kernel
theorem dX12_meanLines_25 : decode cX12_meanLines 25 = .ok (.aload_n 0, 1) := by decide +kernel
theorem dX12_meanLines_26 : decode cX12_meanLines 26 = .ok (.iload_n 3, 1) := by decide +kernel
theorem dX12_meanLines_27 : decode cX12_meanLines 27 = .ok (.invokevirtual 202, 3) := by decide +kernel
theorem dX12_meanLines_30 : decode cX12_meanLines 30 = .ok (.ifCond .le 7, 3) := by decide +kernel
theorem dX12_meanLines_37 : decode cX12_meanLines 37 = .ok (.iconst 0, 1) := by decide +kernel
theorem dX12_meanLines_38 : decode cX12_meanLines 38 = .ok (.iadd, 1) := by decide +kernel
theorem dX12_meanLines_39 : decode cX12_meanLines 39 = .ok (.istore_n 2, 1) := by decide +kernel
theorem dX12_meanLines_40 : decode cX12_meanLines 40 = .ok (.iinc 3 1, 3) := by decide +kernel
theorem dX12_meanLines_43 : decode cX12_meanLines 43 = .ok (.goto (-32), 3) := by decide +kernel
theorem dX12_meanLines_46 : decode cX12_meanLines 46 = .ok (.iload_n 2, 1) := by decide +kernel
theorem dX12_meanLines_47 : decode cX12_meanLines 47 = .ok (.ifCond .ne 7, 3) := by decide +kernel
theorem dX12_meanLines_50 : decode cX12_meanLines 50 = .ok (.dconst 0, 1) := by decide +kernel
theorem dX12_meanLines_51 : decode cX12_meanLines 51 = .ok (.goto 8, 3) := by decide +kernel
theorem dX12_meanLines_59 : decode cX12_meanLines 59 = .ok (.dreturn, 1) := by decide +kernel
abbrev cX12_obeys : ByteArray := prog_14_method_126_code
def yX12_obeys : MethodName := ⟨RX12, "obeys", "(I)Z"⟩
theorem dX12_obeys_0 : decode cX12_obeys 0 = .ok (.iconst 0, 1) := by decide +kernel
theorem dX12_obeys_1 : decode cX12_obeys 1 = .ok (.istore_n 2, 1) := by decide +kernel
theorem dX12_obeys_2 : decode cX12_obeys 2 = .ok (.iload_n 2, 1) := by decide +kernel
theorem dX12_obeys_3 : decode cX12_obeys 3 = .ok (.iconst 4, 1) := by decide +kernel
theorem dX12_obeys_4 : decode cX12_obeys 4 = .ok (.if_icmp .ge 46, 3) := by decide +kernel
theorem dX12_obeys_7 : decode cX12_obeys 7 = .ok (.iload_n 1, 1) := by decide +kernel
theorem dX12_obeys_8 : decode cX12_obeys 8 = .ok (.iconst 4, 1) := by decide +kernel
theorem dX12_obeys_9 : decode cX12_obeys 9 = .ok (.iload_n 2, 1) := by decide +kernel
theorem dX12_obeys_10 : decode cX12_obeys 10 = .ok (.imul, 1) := by decide +kernel
theorem dX12_obeys_11 : decode cX12_obeys 11 = .ok (.ishr, 1) := by decide +kernel
theorem dX12_obeys_12 : decode cX12_obeys 12 = .ok (.bipush 15, 2) := by decide +kernel
theorem dX12_obeys_14 : decode cX12_obeys 14 = .ok (.iand, 1) := by decide +kernel
theorem dX12_obeys_15 : decode cX12_obeys 15 = .ok (.istore_n 3, 1) := by decide +kernel
theorem dX12_obeys_16 : decode cX12_obeys 16 = .ok (.iload_n 2, 1) := by decide +kernel
theorem dX12_obeys_17 : decode cX12_obeys 17 = .ok (.aload_n 0, 1) := by decide +kernel
theorem dX12_obeys_18 : decode cX12_obeys 18 = .ok (.getfield 9, 3) := by decide +kernel
theorem dX12_obeys_21 : decode cX12_obeys 21 = .ok (.iconst 0, 1) := by decide +kernel
theorem dX12_obeys_22 : decode cX12_obeys 22 = .ok (.iaload, 1) := by decide +kernel
theorem dX12_obeys_23 : decode cX12_obeys 23 = .ok (.if_icmp .ge 15, 3) := by decide +kernel
theorem dX12_obeys_38 : decode cX12_obeys 38 = .ok (.iload_n 3, 1) := by decide +kernel
theorem dX12_obeys_39 : decode cX12_obeys 39 = .ok (.ifCond .le 5, 3) := by decide +kernel
theorem dX12_obeys_44 : decode cX12_obeys 44 = .ok (.iinc 2 1, 3) := by decide +kernel
theorem dX12_obeys_47 : decode cX12_obeys 47 = .ok (.goto (-45), 3) := by decide +kernel
theorem dX12_obeys_50 : decode cX12_obeys 50 = .ok (.iconst 0, 1) := by decide +kernel
theorem dX12_obeys_51 : decode cX12_obeys 51 = .ok (.istore_n 2, 1) := by decide +kernel
theorem dX12_obeys_52 : decode cX12_obeys 52 = .ok (.iload_n 2, 1) := by decide +kernel
theorem dX12_obeys_53 : decode cX12_obeys 53 = .ok (.aload_n 0, 1) := by decide +kernel
theorem dX12_obeys_54 : decode cX12_obeys 54 = .ok (.invokevirtual 112, 3) := by decide +kernel
theorem dX12_obeys_57 : decode cX12_obeys 57 = .ok (.if_icmp .ge 41, 3) := by decide +kernel
theorem dX12_obeys_98 : decode cX12_obeys 98 = .ok (.iconst 0, 1) := by decide +kernel
theorem dX12_obeys_99 : decode cX12_obeys 99 = .ok (.istore_n 2, 1) := by decide +kernel
theorem dX12_obeys_100 : decode cX12_obeys 100 = .ok (.iload_n 2, 1) := by decide +kernel
theorem dX12_obeys_101 : decode cX12_obeys 101 = .ok (.aload_n 0, 1) := by decide +kernel
theorem dX12_obeys_102 : decode cX12_obeys 102 = .ok (.getfield 9, 3) := by decide +kernel
theorem dX12_obeys_105 : decode cX12_obeys 105 = .ok (.sipush 3864, 3) := by decide +kernel
theorem dX12_obeys_108 : decode cX12_obeys 108 = .ok (.iaload, 1) := by decide +kernel
theorem dX12_obeys_109 : decode cX12_obeys 109 = .ok (.if_icmp .ge 49, 3) := by decide +kernel
theorem dX12_obeys_158 : decode cX12_obeys 158 = .ok (.iconst 1, 1) := by decide +kernel
theorem dX12_obeys_159 : decode cX12_obeys 159 = .ok (.ireturn, 1) := by decide +kernel
theorem dX12_obeys_42 : decode cX12_obeys 42 = .ok (.iconst 0, 1) := by decide +kernel
theorem dX12_obeys_43 : decode cX12_obeys 43 = .ok (.ireturn, 1) := by decide +kernel
abbrev cX12_orders : ByteArray := prog_14_method_127_code
def yX12_orders : MethodName := ⟨RX12, "orders", "()I"⟩
theorem dX12_orders_0 : decode cX12_orders 0 = .ok (.aload_n 0, 1) := by decide +kernel
theorem dX12_orders_1 : decode cX12_orders 1 = .ok (.iconst 0, 1) := by decide +kernel
theorem dX12_orders_2 : decode cX12_orders 2 = .ok (.putfield 52, 3) := by decide +kernel
theorem dX12_orders_5 : decode cX12_orders 5 = .ok (.iconst 0, 1) := by decide +kernel
theorem dX12_orders_6 : decode cX12_orders 6 = .ok (.istore_n 1, 1) := by decide +kernel
theorem dX12_orders_7 : decode cX12_orders 7 = .ok (.iconst 0, 1) := by decide +kernel
theorem dX12_orders_8 : decode cX12_orders 8 = .ok (.istore_n 2, 1) := by decide +kernel
theorem dX12_orders_9 : decode cX12_orders 9 = .ok (.iload_n 2, 1) := by decide +kernel
theorem zw_111 : Cond.constant RX12 383 65536 ∈ zT := zT_of 2040 (by decide +kernel) (by decide +kernel)
theorem dX12_orders_10 : decode cX12_orders 10 = .ok (.ldc_w 383, 3) := by decide +kernel
theorem dX12_orders_13 : decode cX12_orders 13 = .ok (.if_icmp .ge 25, 3) := by decide +kernel
theorem dX12_orders_38 : decode cX12_orders 38 = .ok (.iload_n 1, 1) := by decide +kernel
theorem dX12_orders_39 : decode cX12_orders 39 = .ok (.ireturn, 1) := by decide +kernel
theorem dX12_orders_16 : decode cX12_orders 16 = .ok (.iload_n 1, 1) := by decide +kernel
theorem dX12_orders_17 : decode cX12_orders 17 = .ok (.aload_n 0, 1) := by decide +kernel
theorem dX12_orders_18 : decode cX12_orders 18 = .ok (.iload_n 2, 1) := by decide +kernel
theorem zw_112 : Cond.methodLink RX12 384 yX12_obeys ∈ zT := zT_of 2041 (by decide +kernel) (by decide +kernel)
theorem zw_113 : Cond.instanceMethod yX12_obeys ∈ zT := zT_of 2043 (by decide +kernel) (by decide +kernel)
theorem zw_114 : Cond.selects RX12 yX12_obeys yX12_obeys ∈ zT := zT_ofS 102 (by decide +kernel) (by decide +kernel)
theorem zw_115 : Cond.code yX12_obeys cX12_obeys 4 (some .boolean) ∈ zT := zT_of 2044 (by decide +kernel) (by decide +kernel)
theorem dX12_orders_19 : decode cX12_orders 19 = .ok (.invokevirtual 384, 3) := by decide +kernel
theorem dX12_orders_22 : decode cX12_orders 22 = .ok (.ifCond .eq 7, 3) := by decide +kernel
theorem dX12_orders_25 : decode cX12_orders 25 = .ok (.iconst 1, 1) := by decide +kernel
theorem dX12_orders_26 : decode cX12_orders 26 = .ok (.goto 4, 3) := by decide +kernel
theorem dX12_orders_30 : decode cX12_orders 30 = .ok (.iadd, 1) := by decide +kernel
theorem dX12_orders_31 : decode cX12_orders 31 = .ok (.istore_n 1, 1) := by decide +kernel
theorem dX12_orders_32 : decode cX12_orders 32 = .ok (.iinc 2 1, 3) := by decide +kernel
theorem dX12_orders_35 : decode cX12_orders 35 = .ok (.goto (-26), 3) := by decide +kernel
theorem dX12_orders_29 : decode cX12_orders 29 = .ok (.iconst 0, 1) := by decide +kernel
set_option maxHeartbeats 4000000 in
set_option maxRecDepth 100000 in
theorem k_X12_thrown (l : Launch) (D : va_G) (a : Nat → Nat) (i : Nat → Int32) : Met l yX12_thrown (.code yX12_thrown cX12_thrown 1 (some .int) :: zT) ({ frames := 0, cells := 0, slots := 0, locals := 0 }) (va_Pc [.ref (a 0)] (zR D [((a 0), .inr (12, zMo a i))] [])) (vp_Si (fun r => r = i 0)) 0 0 (fun _ => False) := by
  refine Met.ofW (cc := cX12_thrown) (maxL := 1) (ret := (some .int)) (by decide) rfl ?_
  intro p e s m args below meth c s₁ B hml hv
  obtain ⟨rfl, hP, hK⟩ := hv
  have hx := B.exec
  have hb := B.bytes
  have hr := B.returns
  have hts := atoms_spec (ws := (.code yX12_thrown cX12_thrown 1 (some .int) :: zT)) B.pre
  have ht : ∀ w ∈ zT, w.before _ s = true := fun w h => hts w (List.mem_cons_of_mem _ h)
  have hown : s.vm.findClass RX12 = some m.cls := findClass_of_methodNamed B.named
  have hlocks := B.notSynchronized
  have hl := lv_entry ([.ref (a 0)]) (n := 1) (Nat.le_of_ble_eq_true rfl)
  rw [lg_entry_eq]
  generalize (lg_sl ([.ref (a 0)]) ++ List.replicate (1 - (lg_sl ([.ref (a 0)])).length) Slot.unset).toArray = ls at hl ⊢
  have hl : lv_has ls 1 [(0, .ref (a 0))] := hl
  skip
  refine lv_aload_n hx hb dX12_thrown_0 rfl (lv_at hl 0 rfl) ?_
  refine va_get (D := D) (ci := 12) (v := .int (i 0)) (C := RX12) (T := TX12) (N := 25) hx hb ht zinX12 hown hK hP 0 rfl rfl 0 (by decide) (ht _ zw_29) (fun _ h9 => h9) rfl dX12_thrown_1 ?_
  refine W.widen (k := 0) (n := 0) (Nat.le_of_ble_eq_true rfl) (Nat.le_of_ble_eq_true rfl) ?_
  exact W.iret (v := (i 0)) hx hb hr (fun t ht hW => ⟨(i 0), rfl, rfl, ht⟩) (fun q h => nomatch h) dX12_thrown_4
set_option maxHeartbeats 4000000 in
set_option maxRecDepth 100000 in
theorem k_X12_signs (l : Launch) (sz : Nat) (D : va_G) (a : Nat → Nat) (cI : ClassId) : Met l yX12_signs (.code yX12_signs cX12_signs 1 (some .int) :: zT) ({ frames := 0, cells := 0, slots := 0, locals := 0 }) (va_Pc [.ref (a 0)] (zM D [((a 0), .inr (12, zMo a zI0)), ((a 1), .inl (cI, 6792, .inl zI0))] [(cI, .int)] sz)) (va_Qi (fun (r : Int32) (_ : Unit) => r = 0) (fun _ t => zE D [] [] (va_A [((a 0), .inr (12, zMo a zI0)), ((a 1), .inl (cI, 6792, .inl zI0))] sz) t) (va_A [((a 0), .inr (12, zMo a zI0)), ((a 1), .inl (cI, 6792, .inl zI0))] sz)) 0 0 (va_A [((a 0), .inr (12, zMo a zI0)), ((a 1), .inl (cI, 6792, .inl zI0))] sz) := by
  refine Met.ofW (cc := cX12_signs) (maxL := 1) (ret := (some .int)) (by decide) rfl ?_
  intro p e s m args below meth c s₁ B hml hv
  obtain ⟨rfl, hsz, hP, hK, hD0⟩ := hv
  have hx := B.exec
  have hb := B.bytes
  have hr := B.returns
  have hts := atoms_spec (ws := (.code yX12_signs cX12_signs 1 (some .int) :: zT)) B.pre
  have ht : ∀ w ∈ zT, w.before _ s = true := fun w h => hts w (List.mem_cons_of_mem _ h)
  have hown : s.vm.findClass RX12 = some m.cls := findClass_of_methodNamed B.named
  have hlocks := B.notSynchronized
  subst hsz
  have hD := hD0.self (sz := s.heap.size)
  generalize hAe : va_A [((a 0), .inr (12, zMo a zI0)), ((a 1), .inl (cI, 6792, .inl zI0))] s.heap.size = A at hD ⊢
  have hA : ∀ q : Nat, s.heap.size ≤ q → A q := fun q h => by rw [← hAe]; exact Or.inr h
  have hS : va_S A s.heap s.heap [] := va_S.rf
  have hP : va_P D vwCl [((a 0), .inr (12, zMo a zI0)), ((a 1), .inl (cI, 6792, .inl zI0))] s.heap := hP
  have hl := lv_entry ([.ref (a 0)]) (n := 1) (Nat.le_of_ble_eq_true rfl)
  rw [lg_entry_eq]
  generalize (lg_sl ([.ref (a 0)]) ++ List.replicate (1 - (lg_sl ([.ref (a 0)])).length) Slot.unset).toArray = ls at hl ⊢
  have hl : lv_has ls 1 [(0, .ref (a 0))] := hl
  skip
  refine lv_aload_n hx hb dX12_signs_0 rfl (lv_at hl 0 rfl) ?_
  refine lv_iconst (v := 0) hx hb dX12_signs_1 (by decide) ?_
  refine va_put (D := D) (ci := 12) (v := .int 0) (ty := .int) (C := RX12) (T := TX12) (N := 25) hx hb ht zinX12 tyX12 tyX12_ok nmX12 hown hK hP hD hS 0 rfl rfl 0 (by decide) (ht _ zw_29) (fun _ h9 => h9) rfl (by decide +kernel) rfl rfl (Nat.le_of_ble_eq_true rfl) dX12_signs_2 (fun H locs hP hD hS => ?_)
  have hP : va_P D vwCl [((a 0), .inr (12, zMo a (upd zI0 0 0))), ((a 1), .inl (cI, 6792, .inl zI0))] H := hP
  have hD : va_D A [((a 0), .inr (12, zMo a (upd zI0 0 0))), ((a 1), .inl (cI, 6792, .inl zI0))] := hD
  refine lv_aload_n hx hb dX12_signs_5 rfl (lv_at hl 0 rfl) ?_
  refine va_get (D := D) (ci := 12) (v := .ref (a 1)) (C := RX12) (T := TX12) (N := 25) hx hb ht zinX12 hown hK hP 0 rfl rfl 1 (by decide) (ht _ zw_34) (fun _ h9 => h9) rfl dX12_signs_6 ?_
  refine lv_iconst (v := 0) hx hb dX12_signs_9 (by decide) ?_
  refine va_iald hx hb hK hP 1 0 rfl rfl (vp_in_iff.mpr (by decide)) dX12_signs_10 ?_
  refine W.eq (g2 := F0 m 11 ls (.int 0 :: [])) rfl ?_
  have hP9 := hP.sub (ws' := []) [] rfl
  have hD9 := hD.sub (ws' := []) [] (by decide) rfl
  have hK9 := hK.sub (tys' := []) [] rfl
  refine W.widen (k := 0) (n := 0) (Nat.le_of_ble_eq_true rfl) (Nat.le_of_ble_eq_true rfl) ?_
  exact W.iret (v := 0) hx hb hr (fun t ht0 hW => ⟨⟨0, (), rfl, rfl, (zE_of hP9 hK9 hD9 ht0 hW)⟩, hS.F ht0⟩) hS.2.2 dX12_signs_11
set_option maxHeartbeats 4000000 in
set_option maxRecDepth 100000 in
theorem k_X12_laws (l : Launch) (sz : Nat) (D : va_G) (a : Nat → Nat) (cI : ClassId) : Met l yX12_laws (.code yX12_laws cX12_laws 1 (some .int) :: zT) ({ frames := 1, cells := 0, slots := 0, locals := 20 }) (va_Pc [.ref (a 0)] (zM D [((a 0), .inr (12, zMo a zI0)), ((a 1), .inl (cI, 6792, .inl zI0))] [(cI, .int)] sz)) (va_Qi (fun (r : Int32) (_ : Unit) => r = 0) (fun _ t => zE D [] [] (va_A [((a 0), .inr (12, zMo a zI0)), ((a 1), .inl (cI, 6792, .inl zI0))] sz) t) (va_A [((a 0), .inr (12, zMo a zI0)), ((a 1), .inl (cI, 6792, .inl zI0))] sz)) 0 0 (va_A [((a 0), .inr (12, zMo a zI0)), ((a 1), .inl (cI, 6792, .inl zI0))] sz) := by
  refine Met.ofW (cc := cX12_laws) (maxL := 1) (ret := (some .int)) (by decide) rfl ?_
  intro p e s m args below meth c s₁ B hml hv
  obtain ⟨rfl, hsz, hP, hK, hD0⟩ := hv
  have hx := B.exec
  have hb := B.bytes
  have hr := B.returns
  have hts := atoms_spec (ws := (.code yX12_laws cX12_laws 1 (some .int) :: zT)) B.pre
  have ht : ∀ w ∈ zT, w.before _ s = true := fun w h => hts w (List.mem_cons_of_mem _ h)
  have hown : s.vm.findClass RX12 = some m.cls := findClass_of_methodNamed B.named
  have hlocks := B.notSynchronized
  subst hsz
  have hD := hD0.self (sz := s.heap.size)
  generalize hAe : va_A [((a 0), .inr (12, zMo a zI0)), ((a 1), .inl (cI, 6792, .inl zI0))] s.heap.size = A at hD ⊢
  have hA : ∀ q : Nat, s.heap.size ≤ q → A q := fun q h => by rw [← hAe]; exact Or.inr h
  have hS : va_S A s.heap s.heap [] := va_S.rf
  have hP : va_P D vwCl [((a 0), .inr (12, zMo a zI0)), ((a 1), .inl (cI, 6792, .inl zI0))] s.heap := hP
  have hl := lv_entry ([.ref (a 0)]) (n := 1) (Nat.le_of_ble_eq_true rfl)
  rw [lg_entry_eq]
  generalize (lg_sl ([.ref (a 0)]) ++ List.replicate (1 - (lg_sl ([.ref (a 0)])).length) Slot.unset).toArray = ls at hl ⊢
  have hl : lv_has ls 1 [(0, .ref (a 0))] := hl
  skip
  refine lv_aload_n hx hb dX12_laws_0 rfl (lv_at hl 0 rfl) ?_
  refine lv_iconst (v := 0) hx hb dX12_laws_1 (by decide) ?_
  refine va_put (D := D) (ci := 12) (v := .int 0) (ty := .int) (C := RX12) (T := TX12) (N := 25) hx hb ht zinX12 tyX12 tyX12_ok nmX12 hown hK hP hD hS 0 rfl rfl 0 (by decide) (ht _ zw_29) (fun _ h9 => h9) rfl (by decide +kernel) rfl rfl (Nat.le_of_ble_eq_true rfl) dX12_laws_2 (fun H locs hP hD hS => ?_)
  have hP : va_P D vwCl [((a 0), .inr (12, zMo a (upd zI0 0 0))), ((a 1), .inl (cI, 6792, .inl zI0))] H := hP
  have hD : va_D A [((a 0), .inr (12, zMo a (upd zI0 0 0))), ((a 1), .inl (cI, 6792, .inl zI0))] := hD
  refine lv_aload_n hx hb dX12_laws_5 rfl (lv_at hl 0 rfl) ?_
  refine vp_callSi (va_runV (As := []) (rest := []) ⟨hx, hb, hml, hown, ht⟩ (k_X12_lawsNow l D a (upd zI0 0 0) cI) (cwV 0 ht (zG_V zw_39 zw_40 zw_41 zw_2 zw_42) rfl rfl rfl (by decide +kernel) ⟨Nat.le_of_ble_eq_true rfl, Nat.le_of_ble_eq_true rfl⟩) (zR_V (va_recv hK hP (ci := 12) (q0 := 0) rfl rfl) hP hK) rfl rfl hl.1 rfl (lv_room (Nat.le_of_ble_eq_true rfl)) dX12_laws_6 ⟨Nat.le_of_ble_eq_true rfl, Nat.le_of_ble_eq_true rfl⟩).run (fun r_1 hw_1 => ?_)
  obtain rfl : r_1 = 0 := hw_1
  have hP9 := hP.sub (ws' := []) [] rfl
  have hD9 := hD.sub (ws' := []) [] (by decide) rfl
  have hK9 := hK.sub (tys' := []) [] rfl
  refine W.widen (k := 0) (n := 0) (Nat.le_of_ble_eq_true rfl) (Nat.le_of_ble_eq_true rfl) ?_
  exact W.iret (v := 0) hx hb hr (fun t ht0 hW => ⟨⟨0, (), rfl, rfl, (zE_of hP9 hK9 hD9 ht0 hW)⟩, hS.F ht0⟩) hS.2.2 dX12_laws_9
set_option maxHeartbeats 4000000 in
set_option maxRecDepth 100000 in
theorem k_X12_open (l : Launch) (sz : Nat) (D : va_G) (a : Nat → Nat) (cI : ClassId) : Met l yX12_open (.code yX12_open cX12_open 1 (some .int) :: zT) ({ frames := 1, cells := 0, slots := 0, locals := 20 }) (va_Pc [.ref (a 0)] (zM D [((a 0), .inr (12, zMo a zI0)), ((a 1), .inl (cI, 6792, .inl zI0))] [(cI, .int)] sz)) (va_Qi (fun (r : Int32) (_ : Unit) => r = 0) (fun _ t => zE D [] [] (va_A [((a 0), .inr (12, zMo a zI0)), ((a 1), .inl (cI, 6792, .inl zI0))] sz) t) (va_A [((a 0), .inr (12, zMo a zI0)), ((a 1), .inl (cI, 6792, .inl zI0))] sz)) 0 0 (va_A [((a 0), .inr (12, zMo a zI0)), ((a 1), .inl (cI, 6792, .inl zI0))] sz) := by
  refine Met.ofW (cc := cX12_open) (maxL := 1) (ret := (some .int)) (by decide) rfl ?_
  intro p e s m args below meth c s₁ B hml hv
  obtain ⟨rfl, hsz, hP, hK, hD0⟩ := hv
  have hx := B.exec
  have hb := B.bytes
  have hr := B.returns
  have hts := atoms_spec (ws := (.code yX12_open cX12_open 1 (some .int) :: zT)) B.pre
  have ht : ∀ w ∈ zT, w.before _ s = true := fun w h => hts w (List.mem_cons_of_mem _ h)
  have hown : s.vm.findClass RX12 = some m.cls := findClass_of_methodNamed B.named
  have hlocks := B.notSynchronized
  subst hsz
  have hD := hD0.self (sz := s.heap.size)
  generalize hAe : va_A [((a 0), .inr (12, zMo a zI0)), ((a 1), .inl (cI, 6792, .inl zI0))] s.heap.size = A at hD ⊢
  have hA : ∀ q : Nat, s.heap.size ≤ q → A q := fun q h => by rw [← hAe]; exact Or.inr h
  have hS : va_S A s.heap s.heap [] := va_S.rf
  have hP : va_P D vwCl [((a 0), .inr (12, zMo a zI0)), ((a 1), .inl (cI, 6792, .inl zI0))] s.heap := hP
  have hl := lv_entry ([.ref (a 0)]) (n := 1) (Nat.le_of_ble_eq_true rfl)
  rw [lg_entry_eq]
  generalize (lg_sl ([.ref (a 0)]) ++ List.replicate (1 - (lg_sl ([.ref (a 0)])).length) Slot.unset).toArray = ls at hl ⊢
  have hl : lv_has ls 1 [(0, .ref (a 0))] := hl
  skip
  refine lv_aload_n hx hb dX12_open_0 rfl (lv_at hl 0 rfl) ?_
  refine lv_iconst (v := 0) hx hb dX12_open_1 (by decide) ?_
  refine va_put (D := D) (ci := 12) (v := .int 0) (ty := .int) (C := RX12) (T := TX12) (N := 25) hx hb ht zinX12 tyX12 tyX12_ok nmX12 hown hK hP hD hS 0 rfl rfl 0 (by decide) (ht _ zw_29) (fun _ h9 => h9) rfl (by decide +kernel) rfl rfl (Nat.le_of_ble_eq_true rfl) dX12_open_2 (fun H locs hP hD hS => ?_)
  have hP : va_P D vwCl [((a 0), .inr (12, zMo a (upd zI0 0 0))), ((a 1), .inl (cI, 6792, .inl zI0))] H := hP
  have hD : va_D A [((a 0), .inr (12, zMo a (upd zI0 0 0))), ((a 1), .inl (cI, 6792, .inl zI0))] := hD
  refine lv_aload_n hx hb dX12_open_5 rfl (lv_at hl 0 rfl) ?_
  refine vp_callSi (va_runV (As := []) (rest := []) ⟨hx, hb, hml, hown, ht⟩ (k_X12_openNow l D a (upd zI0 0 0) cI) (cwV 0 ht (zG_V zw_51 zw_52 zw_53 zw_2 zw_54) rfl rfl rfl (by decide +kernel) ⟨Nat.le_of_ble_eq_true rfl, Nat.le_of_ble_eq_true rfl⟩) (zR_V (va_recv hK hP (ci := 12) (q0 := 0) rfl rfl) hP hK) rfl rfl hl.1 rfl (lv_room (Nat.le_of_ble_eq_true rfl)) dX12_open_6 ⟨Nat.le_of_ble_eq_true rfl, Nat.le_of_ble_eq_true rfl⟩).run (fun r_1 hw_1 => ?_)
  obtain rfl : r_1 = 0 := hw_1
  have hP9 := hP.sub (ws' := []) [] rfl
  have hD9 := hD.sub (ws' := []) [] (by decide) rfl
  have hK9 := hK.sub (tys' := []) [] rfl
  refine W.widen (k := 0) (n := 0) (Nat.le_of_ble_eq_true rfl) (Nat.le_of_ble_eq_true rfl) ?_
  exact W.iret (v := 0) hx hb hr (fun t ht0 hW => ⟨⟨0, (), rfl, rfl, (zE_of hP9 hK9 hD9 ht0 hW)⟩, hS.F ht0⟩) hS.2.2 dX12_open_9
set_option maxHeartbeats 4000000 in
set_option maxRecDepth 100000 in
theorem k_X12_clearText (l : Launch) (sz : Nat) (D : va_G) (a : Nat → Nat) (cI : ClassId) : Met l yX12_clearText (.code yX12_clearText cX12_clearText 2 (some .int) :: zT) ({ frames := 0, cells := 0, slots := 0, locals := 0 }) (va_Pc [.ref (a 0)] (zM D [((a 0), .inr (12, zMo a zI0)), ((a 1), .inl (cI, 6792, .inl zI0))] [(cI, .int)] sz)) (va_Qi (fun (r : Int32) (_ : Unit) => r = 0) (fun _ t => zE D [] [] (va_A [((a 0), .inr (12, zMo a zI0)), ((a 1), .inl (cI, 6792, .inl zI0))] sz) t) (va_A [((a 0), .inr (12, zMo a zI0)), ((a 1), .inl (cI, 6792, .inl zI0))] sz)) 0 0 (va_A [((a 0), .inr (12, zMo a zI0)), ((a 1), .inl (cI, 6792, .inl zI0))] sz) := by
  refine Met.ofW (cc := cX12_clearText) (maxL := 2) (ret := (some .int)) (by decide) rfl ?_
  intro p e s m args below meth c s₁ B hml hv
  obtain ⟨rfl, hsz, hP, hK, hD0⟩ := hv
  have hx := B.exec
  have hb := B.bytes
  have hr := B.returns
  have hts := atoms_spec (ws := (.code yX12_clearText cX12_clearText 2 (some .int) :: zT)) B.pre
  have ht : ∀ w ∈ zT, w.before _ s = true := fun w h => hts w (List.mem_cons_of_mem _ h)
  have hown : s.vm.findClass RX12 = some m.cls := findClass_of_methodNamed B.named
  have hlocks := B.notSynchronized
  subst hsz
  have hD := hD0.self (sz := s.heap.size)
  generalize hAe : va_A [((a 0), .inr (12, zMo a zI0)), ((a 1), .inl (cI, 6792, .inl zI0))] s.heap.size = A at hD ⊢
  have hA : ∀ q : Nat, s.heap.size ≤ q → A q := fun q h => by rw [← hAe]; exact Or.inr h
  have hS : va_S A s.heap s.heap [] := va_S.rf
  have hP : va_P D vwCl [((a 0), .inr (12, zMo a zI0)), ((a 1), .inl (cI, 6792, .inl zI0))] s.heap := hP
  have hl := lv_entry ([.ref (a 0)]) (n := 2) (Nat.le_of_ble_eq_true rfl)
  rw [lg_entry_eq]
  generalize (lg_sl ([.ref (a 0)]) ++ List.replicate (2 - (lg_sl ([.ref (a 0)])).length) Slot.unset).toArray = ls at hl ⊢
  have hl : lv_has ls 2 [(0, .ref (a 0))] := hl
  skip
  refine lv_aload_n hx hb dX12_clearText_0 rfl (lv_at hl 0 rfl) ?_
  refine lv_iconst (v := 0) hx hb dX12_clearText_1 (by decide) ?_
  refine va_put (D := D) (ci := 12) (v := .int 0) (ty := .int) (C := RX12) (T := TX12) (N := 25) hx hb ht zinX12 tyX12 tyX12_ok nmX12 hown hK hP hD hS 0 rfl rfl 0 (by decide) (ht _ zw_29) (fun _ h9 => h9) rfl (by decide +kernel) rfl rfl (Nat.le_of_ble_eq_true rfl) dX12_clearText_2 (fun H locs hP hD hS => ?_)
  have hP : va_P D vwCl [((a 0), .inr (12, zMo a (upd zI0 0 0))), ((a 1), .inl (cI, 6792, .inl zI0))] H := hP
  have hD : va_D A [((a 0), .inr (12, zMo a (upd zI0 0 0))), ((a 1), .inl (cI, 6792, .inl zI0))] := hD
  refine lv_aload_n hx hb dX12_clearText_5 rfl (lv_at hl 0 rfl) ?_
  refine va_get (D := D) (ci := 12) (v := .int 0) (C := RX12) (T := TX12) (N := 25) hx hb ht zinX12 hown hK hP 0 rfl rfl 7 (by decide) (ht _ zw_110) (fun _ h9 => h9) rfl dX12_clearText_6 ?_
  refine lv_istore_n (lv' := [(1, .int 0), (0, .ref (a 0))]) hx hb dX12_clearText_9 rfl hl (by decide) rfl (fun ls hl => ?_)
  refine lv_aload_n hx hb dX12_clearText_10 rfl (lv_at hl 1 rfl) ?_
  refine lv_iconst (v := 0) hx hb dX12_clearText_11 (by decide) ?_
  refine va_put (D := D) (ci := 12) (v := .int 0) (ty := .int) (C := RX12) (T := TX12) (N := 25) hx hb ht zinX12 tyX12 tyX12_ok nmX12 hown hK hP hD hS 0 rfl rfl 7 (by decide) (ht _ zw_110) (fun _ h9 => h9) rfl (by decide +kernel) rfl rfl (Nat.le_of_ble_eq_true rfl) dX12_clearText_12 (fun H locs hP hD hS => ?_)
  have hP : va_P D vwCl [((a 0), .inr (12, zMo a (upd (upd zI0 0 0) 7 0))), ((a 1), .inl (cI, 6792, .inl zI0))] H := hP
  have hD : va_D A [((a 0), .inr (12, zMo a (upd (upd zI0 0 0) 7 0))), ((a 1), .inl (cI, 6792, .inl zI0))] := hD
  refine lv_iload_n hx hb dX12_clearText_15 rfl (lv_at hl 0 rfl) ?_
  have hP9 := hP.sub (ws' := []) [] rfl
  have hD9 := hD.sub (ws' := []) [] (by decide) rfl
  have hK9 := hK.sub (tys' := []) [] rfl
  refine W.widen (k := 0) (n := 0) (Nat.le_of_ble_eq_true rfl) (Nat.le_of_ble_eq_true rfl) ?_
  exact W.iret (v := 0) hx hb hr (fun t ht0 hW => ⟨⟨0, (), rfl, rfl, (zE_of hP9 hK9 hD9 ht0 hW)⟩, hS.F ht0⟩) hS.2.2 dX12_clearText_16
set_option maxHeartbeats 4000000 in
set_option maxRecDepth 100000 in
theorem k_X12_meanLines (l : Launch) (sz : Nat) (D : va_G) (a : Nat → Nat) (cI : ClassId) : Met l yX12_meanLines (.code yX12_meanLines cX12_meanLines 4 (some .double) :: zT) ({ frames := 2, cells := 0, slots := 0, locals := 42 }) (va_Pc [.ref (a 0)] (zM D [((a 0), .inr (12, zMo a zI0)), ((a 1), .inl (cI, 6792, .inl zI0))] [(cI, .int)] sz)) (va_Qd (fun (r : UInt64) (_ : Unit) => r = FP.dconst0) (fun _ t => zE D [] [] (va_A [((a 0), .inr (12, zMo a zI0)), ((a 1), .inl (cI, 6792, .inl zI0))] sz) t) (va_A [((a 0), .inr (12, zMo a zI0)), ((a 1), .inl (cI, 6792, .inl zI0))] sz)) 0 0 (va_A [((a 0), .inr (12, zMo a zI0)), ((a 1), .inl (cI, 6792, .inl zI0))] sz) := by
  refine Met.ofW (cc := cX12_meanLines) (maxL := 4) (ret := (some .double)) (by decide) rfl ?_
  intro p e s m args below meth c s₁ B hml hv
  obtain ⟨rfl, hsz, hP, hK, hD0⟩ := hv
  have hx := B.exec
  have hb := B.bytes
  have hr := B.returns
  have hts := atoms_spec (ws := (.code yX12_meanLines cX12_meanLines 4 (some .double) :: zT)) B.pre
  have ht : ∀ w ∈ zT, w.before _ s = true := fun w h => hts w (List.mem_cons_of_mem _ h)
  have hown : s.vm.findClass RX12 = some m.cls := findClass_of_methodNamed B.named
  have hlocks := B.notSynchronized
  subst hsz
  have hD := hD0.self (sz := s.heap.size)
  generalize hAe : va_A [((a 0), .inr (12, zMo a zI0)), ((a 1), .inl (cI, 6792, .inl zI0))] s.heap.size = A at hD ⊢
  have hA : ∀ q : Nat, s.heap.size ≤ q → A q := fun q h => by rw [← hAe]; exact Or.inr h
  have hS : va_S A s.heap s.heap [] := va_S.rf
  have hP : va_P D vwCl [((a 0), .inr (12, zMo a zI0)), ((a 1), .inl (cI, 6792, .inl zI0))] s.heap := hP
  have hl := lv_entry ([.ref (a 0)]) (n := 4) (Nat.le_of_ble_eq_true rfl)
  rw [lg_entry_eq]
  generalize (lg_sl ([.ref (a 0)]) ++ List.replicate (4 - (lg_sl ([.ref (a 0)])).length) Slot.unset).toArray = ls at hl ⊢
  have hl : lv_has ls 4 [(0, .ref (a 0))] := hl
  skip
  refine lv_aload_n hx hb dX12_meanLines_0 rfl (lv_at hl 0 rfl) ?_
  refine lv_iconst (v := 0) hx hb dX12_meanLines_1 (by decide) ?_
  refine va_put (D := D) (ci := 12) (v := .int 0) (ty := .int) (C := RX12) (T := TX12) (N := 25) hx hb ht zinX12 tyX12 tyX12_ok nmX12 hown hK hP hD hS 0 rfl rfl 0 (by decide) (ht _ zw_29) (fun _ h9 => h9) rfl (by decide +kernel) rfl rfl (Nat.le_of_ble_eq_true rfl) dX12_meanLines_2 (fun H locs hP hD hS => ?_)
  have hP : va_P D vwCl [((a 0), .inr (12, zMo a (upd zI0 0 0))), ((a 1), .inl (cI, 6792, .inl zI0))] H := hP
  have hD : va_D A [((a 0), .inr (12, zMo a (upd zI0 0 0))), ((a 1), .inl (cI, 6792, .inl zI0))] := hD
  refine lv_iconst (v := 0) hx hb dX12_meanLines_5 (by decide) ?_
  refine lv_istore_n (lv' := [(1, .int 0), (0, .ref (a 0))]) hx hb dX12_meanLines_6 rfl hl (by decide) rfl (fun ls hl => ?_)
  refine lv_iconst (v := 0) hx hb dX12_meanLines_7 (by decide) ?_
  refine lv_istore_n (lv' := [(2, .int 0), (1, .int 0), (0, .ref (a 0))]) hx hb dX12_meanLines_8 rfl hl (by decide) rfl (fun ls hl => ?_)
  refine lv_iconst (v := 0) hx hb dX12_meanLines_9 (by decide) ?_
  refine lv_istore_n (lv' := [(3, .int 0), (2, .int 0), (1, .int 0), (0, .ref (a 0))]) hx hb dX12_meanLines_10 rfl hl (by decide) rfl (fun ls hl => ?_)
  refine lv_iload_n hx hb dX12_meanLines_11 rfl (lv_at hl 0 rfl) ?_
  refine lv_iconst (v := 4) hx hb dX12_meanLines_12 (by decide) ?_
  refine lv_icmp_ge (tgt := 46) hx hb dX12_meanLines_13 (by decide) (fun c_1 => ?_) (fun c_1 => ?_)
  · skip
    exact absurd c_1 (by decide)
  · skip
    refine lv_iload_n hx hb dX12_meanLines_16 rfl (lv_at hl 2 rfl) ?_
    refine lv_aload_n hx hb dX12_meanLines_17 rfl (lv_at hl 3 rfl) ?_
    refine lv_iload_n hx hb dX12_meanLines_18 rfl (lv_at hl 0 rfl) ?_
    refine vp_callSi (va_runV (As := [.int 0]) (rest := [.int 0]) ⟨hx, hb, hml, hown, ht⟩ (k_X12_linesOf l D a (upd zI0 0 0) cI 0 (by decide)) (cwV 1 ht (zG_V zw_47 zw_48 zw_49 zw_2 zw_50) rfl rfl rfl (by decide +kernel) ⟨Nat.le_of_ble_eq_true rfl, Nat.le_of_ble_eq_true rfl⟩) (zR_V (va_recv hK hP (ci := 12) (q0 := 0) rfl rfl) hP hK) rfl rfl hl.1 rfl (lv_room (Nat.le_of_ble_eq_true rfl)) dX12_meanLines_19 ⟨Nat.le_of_ble_eq_true rfl, Nat.le_of_ble_eq_true rfl⟩).run (fun r_2 hw_2 => ?_)
    obtain rfl : r_2 = 0 := hw_2
    refine lv_iadd hx hb dX12_meanLines_22 ?_
    refine lv_topi (fun x_3 e_3 => ?_)
    obtain rfl : x_3 = 0 := e_3.trans (by decide)
    refine lv_istore_n (lv' := [(1, .int 0), (3, .int 0), (2, .int 0), (0, .ref (a 0))]) hx hb dX12_meanLines_23 rfl hl (by decide) rfl (fun ls hl => ?_)
    refine lv_iload_n hx hb dX12_meanLines_24 rfl (lv_at hl 2 rfl) ?_
    refine lv_aload_n hx hb dX12_meanLines_25 rfl (lv_at hl 3 rfl) ?_
    refine lv_iload_n hx hb dX12_meanLines_26 rfl (lv_at hl 1 rfl) ?_
    refine vp_callSi (va_runV (As := [.int 0]) (rest := [.int 0]) ⟨hx, hb, hml, hown, ht⟩ (k_X12_linesOf l D a (upd zI0 0 0) cI 0 (by decide)) (cwV 1 ht (zG_V zw_47 zw_48 zw_49 zw_2 zw_50) rfl rfl rfl (by decide +kernel) ⟨Nat.le_of_ble_eq_true rfl, Nat.le_of_ble_eq_true rfl⟩) (zR_V (va_recv hK hP (ci := 12) (q0 := 0) rfl rfl) hP hK) rfl rfl hl.1 rfl (lv_room (Nat.le_of_ble_eq_true rfl)) dX12_meanLines_27 ⟨Nat.le_of_ble_eq_true rfl, Nat.le_of_ble_eq_true rfl⟩).run (fun r_4 hw_4 => ?_)
    obtain rfl : r_4 = 0 := hw_4
    refine lv_if_le (tgt := 37) hx hb dX12_meanLines_30 (by decide) (fun c_5 => ?_) (fun c_5 => ?_)
    · skip
      refine lv_iconst (v := 0) hx hb dX12_meanLines_37 (by decide) ?_
      refine lv_iadd hx hb dX12_meanLines_38 ?_
      refine lv_topi (fun x_6 e_6 => ?_)
      obtain rfl : x_6 = 0 := e_6.trans (by decide)
      refine lv_istore_n (lv' := [(2, .int 0), (1, .int 0), (3, .int 0), (0, .ref (a 0))]) hx hb dX12_meanLines_39 rfl hl (by decide) rfl (fun ls hl => ?_)
      refine lv_iinc (v := 1) (lv' := [(3, .int 1), (2, .int 0), (1, .int 0), (0, .ref (a 0))]) hx hb dX12_meanLines_40 hl (k := 2) rfl (by decide) (by decide) rfl (fun ls hl => ?_)
      refine lv_goto (tgt := 11) hx hb dX12_meanLines_43 (by decide) ?_
      refine lv_iload_n hx hb dX12_meanLines_11 rfl (lv_at hl 0 rfl) ?_
      refine lv_iconst (v := 4) hx hb dX12_meanLines_12 (by decide) ?_
      refine lv_icmp_ge (tgt := 46) hx hb dX12_meanLines_13 (by decide) (fun c_8 => ?_) (fun c_8 => ?_)
      · skip
        exact absurd c_8 (by decide)
      · skip
        refine lv_iload_n hx hb dX12_meanLines_16 rfl (lv_at hl 2 rfl) ?_
        refine lv_aload_n hx hb dX12_meanLines_17 rfl (lv_at hl 3 rfl) ?_
        refine lv_iload_n hx hb dX12_meanLines_18 rfl (lv_at hl 0 rfl) ?_
        refine vp_callSi (va_runV (As := [.int 1]) (rest := [.int 0]) ⟨hx, hb, hml, hown, ht⟩ (k_X12_linesOf l D a (upd zI0 0 0) cI 1 (by decide)) (cwV 1 ht (zG_V zw_47 zw_48 zw_49 zw_2 zw_50) rfl rfl rfl (by decide +kernel) ⟨Nat.le_of_ble_eq_true rfl, Nat.le_of_ble_eq_true rfl⟩) (zR_V (va_recv hK hP (ci := 12) (q0 := 0) rfl rfl) hP hK) rfl rfl hl.1 rfl (lv_room (Nat.le_of_ble_eq_true rfl)) dX12_meanLines_19 ⟨Nat.le_of_ble_eq_true rfl, Nat.le_of_ble_eq_true rfl⟩).run (fun r_9 hw_9 => ?_)
        obtain rfl : r_9 = 0 := hw_9
        refine lv_iadd hx hb dX12_meanLines_22 ?_
        refine lv_topi (fun x_10 e_10 => ?_)
        obtain rfl : x_10 = 0 := e_10.trans (by decide)
        refine lv_istore_n (lv' := [(1, .int 0), (3, .int 1), (2, .int 0), (0, .ref (a 0))]) hx hb dX12_meanLines_23 rfl hl (by decide) rfl (fun ls hl => ?_)
        refine lv_iload_n hx hb dX12_meanLines_24 rfl (lv_at hl 2 rfl) ?_
        refine lv_aload_n hx hb dX12_meanLines_25 rfl (lv_at hl 3 rfl) ?_
        refine lv_iload_n hx hb dX12_meanLines_26 rfl (lv_at hl 1 rfl) ?_
        refine vp_callSi (va_runV (As := [.int 1]) (rest := [.int 0]) ⟨hx, hb, hml, hown, ht⟩ (k_X12_linesOf l D a (upd zI0 0 0) cI 1 (by decide)) (cwV 1 ht (zG_V zw_47 zw_48 zw_49 zw_2 zw_50) rfl rfl rfl (by decide +kernel) ⟨Nat.le_of_ble_eq_true rfl, Nat.le_of_ble_eq_true rfl⟩) (zR_V (va_recv hK hP (ci := 12) (q0 := 0) rfl rfl) hP hK) rfl rfl hl.1 rfl (lv_room (Nat.le_of_ble_eq_true rfl)) dX12_meanLines_27 ⟨Nat.le_of_ble_eq_true rfl, Nat.le_of_ble_eq_true rfl⟩).run (fun r_11 hw_11 => ?_)
        obtain rfl : r_11 = 0 := hw_11
        refine lv_if_le (tgt := 37) hx hb dX12_meanLines_30 (by decide) (fun c_12 => ?_) (fun c_12 => ?_)
        · skip
          refine lv_iconst (v := 0) hx hb dX12_meanLines_37 (by decide) ?_
          refine lv_iadd hx hb dX12_meanLines_38 ?_
          refine lv_topi (fun x_13 e_13 => ?_)
          obtain rfl : x_13 = 0 := e_13.trans (by decide)
          refine lv_istore_n (lv' := [(2, .int 0), (1, .int 0), (3, .int 1), (0, .ref (a 0))]) hx hb dX12_meanLines_39 rfl hl (by decide) rfl (fun ls hl => ?_)
          refine lv_iinc (v := 2) (lv' := [(3, .int 2), (2, .int 0), (1, .int 0), (0, .ref (a 0))]) hx hb dX12_meanLines_40 hl (k := 2) rfl (by decide) (by decide) rfl (fun ls hl => ?_)
          refine lv_goto (tgt := 11) hx hb dX12_meanLines_43 (by decide) ?_
          refine lv_iload_n hx hb dX12_meanLines_11 rfl (lv_at hl 0 rfl) ?_
          refine lv_iconst (v := 4) hx hb dX12_meanLines_12 (by decide) ?_
          refine lv_icmp_ge (tgt := 46) hx hb dX12_meanLines_13 (by decide) (fun c_15 => ?_) (fun c_15 => ?_)
          · skip
            exact absurd c_15 (by decide)
          · skip
            refine lv_iload_n hx hb dX12_meanLines_16 rfl (lv_at hl 2 rfl) ?_
            refine lv_aload_n hx hb dX12_meanLines_17 rfl (lv_at hl 3 rfl) ?_
            refine lv_iload_n hx hb dX12_meanLines_18 rfl (lv_at hl 0 rfl) ?_
            refine vp_callSi (va_runV (As := [.int 2]) (rest := [.int 0]) ⟨hx, hb, hml, hown, ht⟩ (k_X12_linesOf l D a (upd zI0 0 0) cI 2 (by decide)) (cwV 1 ht (zG_V zw_47 zw_48 zw_49 zw_2 zw_50) rfl rfl rfl (by decide +kernel) ⟨Nat.le_of_ble_eq_true rfl, Nat.le_of_ble_eq_true rfl⟩) (zR_V (va_recv hK hP (ci := 12) (q0 := 0) rfl rfl) hP hK) rfl rfl hl.1 rfl (lv_room (Nat.le_of_ble_eq_true rfl)) dX12_meanLines_19 ⟨Nat.le_of_ble_eq_true rfl, Nat.le_of_ble_eq_true rfl⟩).run (fun r_16 hw_16 => ?_)
            obtain rfl : r_16 = 0 := hw_16
            refine lv_iadd hx hb dX12_meanLines_22 ?_
            refine lv_topi (fun x_17 e_17 => ?_)
            obtain rfl : x_17 = 0 := e_17.trans (by decide)
            refine lv_istore_n (lv' := [(1, .int 0), (3, .int 2), (2, .int 0), (0, .ref (a 0))]) hx hb dX12_meanLines_23 rfl hl (by decide) rfl (fun ls hl => ?_)
            refine lv_iload_n hx hb dX12_meanLines_24 rfl (lv_at hl 2 rfl) ?_
            refine lv_aload_n hx hb dX12_meanLines_25 rfl (lv_at hl 3 rfl) ?_
            refine lv_iload_n hx hb dX12_meanLines_26 rfl (lv_at hl 1 rfl) ?_
            refine vp_callSi (va_runV (As := [.int 2]) (rest := [.int 0]) ⟨hx, hb, hml, hown, ht⟩ (k_X12_linesOf l D a (upd zI0 0 0) cI 2 (by decide)) (cwV 1 ht (zG_V zw_47 zw_48 zw_49 zw_2 zw_50) rfl rfl rfl (by decide +kernel) ⟨Nat.le_of_ble_eq_true rfl, Nat.le_of_ble_eq_true rfl⟩) (zR_V (va_recv hK hP (ci := 12) (q0 := 0) rfl rfl) hP hK) rfl rfl hl.1 rfl (lv_room (Nat.le_of_ble_eq_true rfl)) dX12_meanLines_27 ⟨Nat.le_of_ble_eq_true rfl, Nat.le_of_ble_eq_true rfl⟩).run (fun r_18 hw_18 => ?_)
            obtain rfl : r_18 = 0 := hw_18
            refine lv_if_le (tgt := 37) hx hb dX12_meanLines_30 (by decide) (fun c_19 => ?_) (fun c_19 => ?_)
            · skip
              refine lv_iconst (v := 0) hx hb dX12_meanLines_37 (by decide) ?_
              refine lv_iadd hx hb dX12_meanLines_38 ?_
              refine lv_topi (fun x_20 e_20 => ?_)
              obtain rfl : x_20 = 0 := e_20.trans (by decide)
              refine lv_istore_n (lv' := [(2, .int 0), (1, .int 0), (3, .int 2), (0, .ref (a 0))]) hx hb dX12_meanLines_39 rfl hl (by decide) rfl (fun ls hl => ?_)
              refine lv_iinc (v := 3) (lv' := [(3, .int 3), (2, .int 0), (1, .int 0), (0, .ref (a 0))]) hx hb dX12_meanLines_40 hl (k := 2) rfl (by decide) (by decide) rfl (fun ls hl => ?_)
              refine lv_goto (tgt := 11) hx hb dX12_meanLines_43 (by decide) ?_
              refine lv_iload_n hx hb dX12_meanLines_11 rfl (lv_at hl 0 rfl) ?_
              refine lv_iconst (v := 4) hx hb dX12_meanLines_12 (by decide) ?_
              refine lv_icmp_ge (tgt := 46) hx hb dX12_meanLines_13 (by decide) (fun c_22 => ?_) (fun c_22 => ?_)
              · skip
                exact absurd c_22 (by decide)
              · skip
                refine lv_iload_n hx hb dX12_meanLines_16 rfl (lv_at hl 2 rfl) ?_
                refine lv_aload_n hx hb dX12_meanLines_17 rfl (lv_at hl 3 rfl) ?_
                refine lv_iload_n hx hb dX12_meanLines_18 rfl (lv_at hl 0 rfl) ?_
                refine vp_callSi (va_runV (As := [.int 3]) (rest := [.int 0]) ⟨hx, hb, hml, hown, ht⟩ (k_X12_linesOf l D a (upd zI0 0 0) cI 3 (by decide)) (cwV 1 ht (zG_V zw_47 zw_48 zw_49 zw_2 zw_50) rfl rfl rfl (by decide +kernel) ⟨Nat.le_of_ble_eq_true rfl, Nat.le_of_ble_eq_true rfl⟩) (zR_V (va_recv hK hP (ci := 12) (q0 := 0) rfl rfl) hP hK) rfl rfl hl.1 rfl (lv_room (Nat.le_of_ble_eq_true rfl)) dX12_meanLines_19 ⟨Nat.le_of_ble_eq_true rfl, Nat.le_of_ble_eq_true rfl⟩).run (fun r_23 hw_23 => ?_)
                obtain rfl : r_23 = 0 := hw_23
                refine lv_iadd hx hb dX12_meanLines_22 ?_
                refine lv_topi (fun x_24 e_24 => ?_)
                obtain rfl : x_24 = 0 := e_24.trans (by decide)
                refine lv_istore_n (lv' := [(1, .int 0), (3, .int 3), (2, .int 0), (0, .ref (a 0))]) hx hb dX12_meanLines_23 rfl hl (by decide) rfl (fun ls hl => ?_)
                refine lv_iload_n hx hb dX12_meanLines_24 rfl (lv_at hl 2 rfl) ?_
                refine lv_aload_n hx hb dX12_meanLines_25 rfl (lv_at hl 3 rfl) ?_
                refine lv_iload_n hx hb dX12_meanLines_26 rfl (lv_at hl 1 rfl) ?_
                refine vp_callSi (va_runV (As := [.int 3]) (rest := [.int 0]) ⟨hx, hb, hml, hown, ht⟩ (k_X12_linesOf l D a (upd zI0 0 0) cI 3 (by decide)) (cwV 1 ht (zG_V zw_47 zw_48 zw_49 zw_2 zw_50) rfl rfl rfl (by decide +kernel) ⟨Nat.le_of_ble_eq_true rfl, Nat.le_of_ble_eq_true rfl⟩) (zR_V (va_recv hK hP (ci := 12) (q0 := 0) rfl rfl) hP hK) rfl rfl hl.1 rfl (lv_room (Nat.le_of_ble_eq_true rfl)) dX12_meanLines_27 ⟨Nat.le_of_ble_eq_true rfl, Nat.le_of_ble_eq_true rfl⟩).run (fun r_25 hw_25 => ?_)
                obtain rfl : r_25 = 0 := hw_25
                refine lv_if_le (tgt := 37) hx hb dX12_meanLines_30 (by decide) (fun c_26 => ?_) (fun c_26 => ?_)
                · skip
                  refine lv_iconst (v := 0) hx hb dX12_meanLines_37 (by decide) ?_
                  refine lv_iadd hx hb dX12_meanLines_38 ?_
                  refine lv_topi (fun x_27 e_27 => ?_)
                  obtain rfl : x_27 = 0 := e_27.trans (by decide)
                  refine lv_istore_n (lv' := [(2, .int 0), (1, .int 0), (3, .int 3), (0, .ref (a 0))]) hx hb dX12_meanLines_39 rfl hl (by decide) rfl (fun ls hl => ?_)
                  refine lv_iinc (v := 4) (lv' := [(3, .int 4), (2, .int 0), (1, .int 0), (0, .ref (a 0))]) hx hb dX12_meanLines_40 hl (k := 2) rfl (by decide) (by decide) rfl (fun ls hl => ?_)
                  refine lv_goto (tgt := 11) hx hb dX12_meanLines_43 (by decide) ?_
                  refine lv_iload_n hx hb dX12_meanLines_11 rfl (lv_at hl 0 rfl) ?_
                  refine lv_iconst (v := 4) hx hb dX12_meanLines_12 (by decide) ?_
                  refine lv_icmp_ge (tgt := 46) hx hb dX12_meanLines_13 (by decide) (fun c_29 => ?_) (fun c_29 => ?_)
                  · skip
                    refine lv_iload_n hx hb dX12_meanLines_46 rfl (lv_at hl 1 rfl) ?_
                    refine lv_if_ne (tgt := 54) hx hb dX12_meanLines_47 (by decide) (fun c_30 => ?_) (fun c_30 => ?_)
                    · skip
                      exact absurd c_30 (by decide)
                    · skip
                      refine lv_dconst0 hx hb dX12_meanLines_50 ?_
                      refine lv_goto (tgt := 59) hx hb dX12_meanLines_51 (by decide) ?_
                      have hP9 := hP.sub (ws' := []) [] rfl
                      have hD9 := hD.sub (ws' := []) [] (by decide) rfl
                      have hK9 := hK.sub (tys' := []) [] rfl
                      refine W.widen (k := 0) (n := 0) (Nat.le_of_ble_eq_true rfl) (Nat.le_of_ble_eq_true rfl) ?_
                      exact W.dret (v := FP.dconst0) hx hb hr (fun t ht0 hW => ⟨⟨FP.dconst0, (), rfl, rfl, (zE_of hP9 hK9 hD9 ht0 hW)⟩, hS.F ht0⟩) hS.2.2 dX12_meanLines_59
                  · skip
                    exact absurd c_29 (by decide)
                · skip
                  exact absurd c_26 (by decide)
            · skip
              exact absurd c_19 (by decide)
        · skip
          exact absurd c_12 (by decide)
    · skip
      exact absurd c_5 (by decide)
set_option maxHeartbeats 4000000 in
set_option maxRecDepth 100000 in
theorem k_X12_obeys (l : Launch) (D : va_G) (a : Nat → Nat) (i : Nat → Int32) (cI : ClassId) (x : Int32) (hk : 0 ≤ x.toInt ∧ x.toInt < 65536) : Met l yX12_obeys (.code yX12_obeys cX12_obeys 4 (some .boolean) :: zT) ({ frames := 1, cells := 0, slots := 0, locals := 20 }) (va_Pc [.ref (a 0), .int x] (zR D [((a 0), .inr (12, zMo a i)), ((a 1), .inl (cI, 6792, .inl zI0))] [(cI, .int)])) (vp_Si (fun r => (r = 1 ∧ x.toInt = 0) ∨ (r = 0 ∧ ¬ x.toInt = 0))) 0 0 (fun _ => False) := by
  refine Met.ofW (cc := cX12_obeys) (maxL := 4) (ret := (some .boolean)) (by decide) rfl ?_
  intro p e s m args below meth c s₁ B hml hv
  obtain ⟨rfl, hP, hK⟩ := hv
  have hx := B.exec
  have hb := B.bytes
  have hr := B.returns
  have hts := atoms_spec (ws := (.code yX12_obeys cX12_obeys 4 (some .boolean) :: zT)) B.pre
  have ht : ∀ w ∈ zT, w.before _ s = true := fun w h => hts w (List.mem_cons_of_mem _ h)
  have hown : s.vm.findClass RX12 = some m.cls := findClass_of_methodNamed B.named
  have hlocks := B.notSynchronized
  have hl := lv_entry ([.ref (a 0), .int x]) (n := 4) (Nat.le_of_ble_eq_true rfl)
  rw [lg_entry_eq]
  generalize (lg_sl ([.ref (a 0), .int x]) ++ List.replicate (4 - (lg_sl ([.ref (a 0), .int x])).length) Slot.unset).toArray = ls at hl ⊢
  have hl : lv_has ls 4 [(0, .ref (a 0)), (1, .int x)] := hl
  skip
  obtain ⟨j, hj, rfl⟩ : ∃ j : Nat, j < 65536 ∧ x = nI j := vp_in_of (vp_in_iff.mpr hk) (by decide)
  refine lv_iconst (v := 0) hx hb dX12_obeys_0 (by decide) ?_
  refine lv_istore_n (lv' := [(2, .int 0), (0, .ref (a 0)), (1, .int (nI j))]) hx hb dX12_obeys_1 rfl hl (by decide) rfl (fun ls hl => ?_)
  refine lv_iload_n hx hb dX12_obeys_2 rfl (lv_at hl 0 rfl) ?_
  refine lv_iconst (v := 4) hx hb dX12_obeys_3 (by decide) ?_
  refine lv_icmp_ge (tgt := 50) hx hb dX12_obeys_4 (by decide) (fun c_1 => ?_) (fun c_1 => ?_)
  · skip
    exact absurd c_1 (by decide)
  · skip
    refine lv_iload_n hx hb dX12_obeys_7 rfl (lv_at hl 2 rfl) ?_
    refine lv_iconst (v := 4) hx hb dX12_obeys_8 (by decide) ?_
    refine lv_iload_n hx hb dX12_obeys_9 rfl (lv_at hl 0 rfl) ?_
    refine lv_imul hx hb dX12_obeys_10 ?_
    refine lv_topi (fun x_2 e_2 => ?_)
    obtain rfl : x_2 = 0 := e_2.trans (by decide)
    refine lv_ishr hx hb dX12_obeys_11 ?_
    refine lv_topi (fun x_3 e_3 => ?_)
    obtain rfl : x_3 = nI j := e_3.trans (sc_shr0 (by omega))
    refine lv_bipush (v := 15) hx hb dX12_obeys_12 (by decide) ?_
    refine lv_iand hx hb dX12_obeys_14 ?_
    refine lv_topi (fun x_4 e_4 => ?_)
    obtain rfl : x_4 = nI (j % 16) := e_4.trans (pk_andN (by omega) 4 (by decide))
    refine lv_istore_n (lv' := [(3, .int (nI (j % 16))), (2, .int 0), (0, .ref (a 0)), (1, .int (nI j))]) hx hb dX12_obeys_15 rfl hl (by decide) rfl (fun ls hl => ?_)
    refine lv_iload_n hx hb dX12_obeys_16 rfl (lv_at hl 1 rfl) ?_
    refine lv_aload_n hx hb dX12_obeys_17 rfl (lv_at hl 2 rfl) ?_
    refine va_get (D := D) (ci := 12) (v := .ref (a 1)) (C := RX12) (T := TX12) (N := 25) hx hb ht zinX12 hown hK hP 0 rfl rfl 1 (by decide) (ht _ zw_34) (fun _ h9 => h9) rfl dX12_obeys_18 ?_
    refine lv_iconst (v := 0) hx hb dX12_obeys_21 (by decide) ?_
    refine va_iald hx hb hK hP 1 0 rfl rfl (vp_in_iff.mpr (by decide)) dX12_obeys_22 ?_
    refine W.eq (g2 := F0 m 23 ls (.int 0 :: .int 0 :: [])) rfl ?_
    refine lv_icmp_ge (tgt := 38) hx hb dX12_obeys_23 (by decide) (fun c_6 => ?_) (fun c_6 => ?_)
    · skip
      refine lv_iload_n hx hb dX12_obeys_38 rfl (lv_at hl 0 rfl) ?_
      refine lv_if_le (tgt := 44) hx hb dX12_obeys_39 (by decide) (fun c_7 => ?_) (fun c_7 => ?_)
      · skip
        simp only [fa_lt, fa_le, fa_eq, Int32.reduceToInt] at c_7
        rw [nI_toInt (n := j % 16) (by omega)] at c_7
        refine lv_iinc (v := 1) (lv' := [(2, .int 1), (3, .int (nI (j % 16))), (0, .ref (a 0)), (1, .int (nI j))]) hx hb dX12_obeys_44 hl (k := 1) rfl (by decide) (by decide) rfl (fun ls hl => ?_)
        refine lv_goto (tgt := 2) hx hb dX12_obeys_47 (by decide) ?_
        refine lv_iload_n hx hb dX12_obeys_2 rfl (lv_at hl 0 rfl) ?_
        refine lv_iconst (v := 4) hx hb dX12_obeys_3 (by decide) ?_
        refine lv_icmp_ge (tgt := 50) hx hb dX12_obeys_4 (by decide) (fun c_9 => ?_) (fun c_9 => ?_)
        · skip
          exact absurd c_9 (by decide)
        · skip
          refine lv_iload_n hx hb dX12_obeys_7 rfl (lv_at hl 3 rfl) ?_
          refine lv_iconst (v := 4) hx hb dX12_obeys_8 (by decide) ?_
          refine lv_iload_n hx hb dX12_obeys_9 rfl (lv_at hl 0 rfl) ?_
          refine lv_imul hx hb dX12_obeys_10 ?_
          refine lv_topi (fun x_10 e_10 => ?_)
          obtain rfl : x_10 = 4 := e_10.trans (by decide)
          refine lv_ishr hx hb dX12_obeys_11 ?_
          refine lv_topi (fun x_11 e_11 => ?_)
          obtain rfl : x_11 = nI (j / 16) := e_11.trans (pk_shrN (by omega) _ 4 (by decide))
          refine lv_bipush (v := 15) hx hb dX12_obeys_12 (by decide) ?_
          refine lv_iand hx hb dX12_obeys_14 ?_
          refine lv_topi (fun x_12 e_12 => ?_)
          obtain rfl : x_12 = nI ((j / 16) % 16) := e_12.trans (pk_andN (by omega) 4 (by decide))
          refine lv_istore_n (lv' := [(3, .int (nI ((j / 16) % 16))), (2, .int 1), (0, .ref (a 0)), (1, .int (nI j))]) hx hb dX12_obeys_15 rfl hl (by decide) rfl (fun ls hl => ?_)
          refine lv_iload_n hx hb dX12_obeys_16 rfl (lv_at hl 1 rfl) ?_
          refine lv_aload_n hx hb dX12_obeys_17 rfl (lv_at hl 2 rfl) ?_
          refine va_get (D := D) (ci := 12) (v := .ref (a 1)) (C := RX12) (T := TX12) (N := 25) hx hb ht zinX12 hown hK hP 0 rfl rfl 1 (by decide) (ht _ zw_34) (fun _ h9 => h9) rfl dX12_obeys_18 ?_
          refine lv_iconst (v := 0) hx hb dX12_obeys_21 (by decide) ?_
          refine va_iald hx hb hK hP 1 0 rfl rfl (vp_in_iff.mpr (by decide)) dX12_obeys_22 ?_
          refine W.eq (g2 := F0 m 23 ls (.int 0 :: .int 1 :: [])) rfl ?_
          refine lv_icmp_ge (tgt := 38) hx hb dX12_obeys_23 (by decide) (fun c_14 => ?_) (fun c_14 => ?_)
          · skip
            refine lv_iload_n hx hb dX12_obeys_38 rfl (lv_at hl 0 rfl) ?_
            refine lv_if_le (tgt := 44) hx hb dX12_obeys_39 (by decide) (fun c_15 => ?_) (fun c_15 => ?_)
            · skip
              simp only [fa_lt, fa_le, fa_eq, Int32.reduceToInt] at c_15
              rw [nI_toInt (n := (j / 16) % 16) (by omega)] at c_15
              refine lv_iinc (v := 2) (lv' := [(2, .int 2), (3, .int (nI ((j / 16) % 16))), (0, .ref (a 0)), (1, .int (nI j))]) hx hb dX12_obeys_44 hl (k := 1) rfl (by decide) (by decide) rfl (fun ls hl => ?_)
              refine lv_goto (tgt := 2) hx hb dX12_obeys_47 (by decide) ?_
              refine lv_iload_n hx hb dX12_obeys_2 rfl (lv_at hl 0 rfl) ?_
              refine lv_iconst (v := 4) hx hb dX12_obeys_3 (by decide) ?_
              refine lv_icmp_ge (tgt := 50) hx hb dX12_obeys_4 (by decide) (fun c_17 => ?_) (fun c_17 => ?_)
              · skip
                exact absurd c_17 (by decide)
              · skip
                refine lv_iload_n hx hb dX12_obeys_7 rfl (lv_at hl 3 rfl) ?_
                refine lv_iconst (v := 4) hx hb dX12_obeys_8 (by decide) ?_
                refine lv_iload_n hx hb dX12_obeys_9 rfl (lv_at hl 0 rfl) ?_
                refine lv_imul hx hb dX12_obeys_10 ?_
                refine lv_topi (fun x_18 e_18 => ?_)
                obtain rfl : x_18 = 8 := e_18.trans (by decide)
                refine lv_ishr hx hb dX12_obeys_11 ?_
                refine lv_topi (fun x_19 e_19 => ?_)
                obtain rfl : x_19 = nI (j / 256) := e_19.trans (pk_shrN (by omega) _ 8 (by decide))
                refine lv_bipush (v := 15) hx hb dX12_obeys_12 (by decide) ?_
                refine lv_iand hx hb dX12_obeys_14 ?_
                refine lv_topi (fun x_20 e_20 => ?_)
                obtain rfl : x_20 = nI ((j / 256) % 16) := e_20.trans (pk_andN (by omega) 4 (by decide))
                refine lv_istore_n (lv' := [(3, .int (nI ((j / 256) % 16))), (2, .int 2), (0, .ref (a 0)), (1, .int (nI j))]) hx hb dX12_obeys_15 rfl hl (by decide) rfl (fun ls hl => ?_)
                refine lv_iload_n hx hb dX12_obeys_16 rfl (lv_at hl 1 rfl) ?_
                refine lv_aload_n hx hb dX12_obeys_17 rfl (lv_at hl 2 rfl) ?_
                refine va_get (D := D) (ci := 12) (v := .ref (a 1)) (C := RX12) (T := TX12) (N := 25) hx hb ht zinX12 hown hK hP 0 rfl rfl 1 (by decide) (ht _ zw_34) (fun _ h9 => h9) rfl dX12_obeys_18 ?_
                refine lv_iconst (v := 0) hx hb dX12_obeys_21 (by decide) ?_
                refine va_iald hx hb hK hP 1 0 rfl rfl (vp_in_iff.mpr (by decide)) dX12_obeys_22 ?_
                refine W.eq (g2 := F0 m 23 ls (.int 0 :: .int 2 :: [])) rfl ?_
                refine lv_icmp_ge (tgt := 38) hx hb dX12_obeys_23 (by decide) (fun c_22 => ?_) (fun c_22 => ?_)
                · skip
                  refine lv_iload_n hx hb dX12_obeys_38 rfl (lv_at hl 0 rfl) ?_
                  refine lv_if_le (tgt := 44) hx hb dX12_obeys_39 (by decide) (fun c_23 => ?_) (fun c_23 => ?_)
                  · skip
                    simp only [fa_lt, fa_le, fa_eq, Int32.reduceToInt] at c_23
                    rw [nI_toInt (n := (j / 256) % 16) (by omega)] at c_23
                    refine lv_iinc (v := 3) (lv' := [(2, .int 3), (3, .int (nI ((j / 256) % 16))), (0, .ref (a 0)), (1, .int (nI j))]) hx hb dX12_obeys_44 hl (k := 1) rfl (by decide) (by decide) rfl (fun ls hl => ?_)
                    refine lv_goto (tgt := 2) hx hb dX12_obeys_47 (by decide) ?_
                    refine lv_iload_n hx hb dX12_obeys_2 rfl (lv_at hl 0 rfl) ?_
                    refine lv_iconst (v := 4) hx hb dX12_obeys_3 (by decide) ?_
                    refine lv_icmp_ge (tgt := 50) hx hb dX12_obeys_4 (by decide) (fun c_25 => ?_) (fun c_25 => ?_)
                    · skip
                      exact absurd c_25 (by decide)
                    · skip
                      refine lv_iload_n hx hb dX12_obeys_7 rfl (lv_at hl 3 rfl) ?_
                      refine lv_iconst (v := 4) hx hb dX12_obeys_8 (by decide) ?_
                      refine lv_iload_n hx hb dX12_obeys_9 rfl (lv_at hl 0 rfl) ?_
                      refine lv_imul hx hb dX12_obeys_10 ?_
                      refine lv_topi (fun x_26 e_26 => ?_)
                      obtain rfl : x_26 = 12 := e_26.trans (by decide)
                      refine lv_ishr hx hb dX12_obeys_11 ?_
                      refine lv_topi (fun x_27 e_27 => ?_)
                      obtain rfl : x_27 = nI (j / 4096) := e_27.trans (pk_shrN (by omega) _ 12 (by decide))
                      refine lv_bipush (v := 15) hx hb dX12_obeys_12 (by decide) ?_
                      refine lv_iand hx hb dX12_obeys_14 ?_
                      refine lv_topi (fun x_28 e_28 => ?_)
                      obtain rfl : x_28 = nI ((j / 4096) % 16) := e_28.trans (pk_andN (by omega) 4 (by decide))
                      refine lv_istore_n (lv' := [(3, .int (nI ((j / 4096) % 16))), (2, .int 3), (0, .ref (a 0)), (1, .int (nI j))]) hx hb dX12_obeys_15 rfl hl (by decide) rfl (fun ls hl => ?_)
                      refine lv_iload_n hx hb dX12_obeys_16 rfl (lv_at hl 1 rfl) ?_
                      refine lv_aload_n hx hb dX12_obeys_17 rfl (lv_at hl 2 rfl) ?_
                      refine va_get (D := D) (ci := 12) (v := .ref (a 1)) (C := RX12) (T := TX12) (N := 25) hx hb ht zinX12 hown hK hP 0 rfl rfl 1 (by decide) (ht _ zw_34) (fun _ h9 => h9) rfl dX12_obeys_18 ?_
                      refine lv_iconst (v := 0) hx hb dX12_obeys_21 (by decide) ?_
                      refine va_iald hx hb hK hP 1 0 rfl rfl (vp_in_iff.mpr (by decide)) dX12_obeys_22 ?_
                      refine W.eq (g2 := F0 m 23 ls (.int 0 :: .int 3 :: [])) rfl ?_
                      refine lv_icmp_ge (tgt := 38) hx hb dX12_obeys_23 (by decide) (fun c_30 => ?_) (fun c_30 => ?_)
                      · skip
                        refine lv_iload_n hx hb dX12_obeys_38 rfl (lv_at hl 0 rfl) ?_
                        refine lv_if_le (tgt := 44) hx hb dX12_obeys_39 (by decide) (fun c_31 => ?_) (fun c_31 => ?_)
                        · skip
                          simp only [fa_lt, fa_le, fa_eq, Int32.reduceToInt] at c_31
                          rw [nI_toInt (n := (j / 4096) % 16) (by omega)] at c_31
                          refine lv_iinc (v := 4) (lv' := [(2, .int 4), (3, .int (nI ((j / 4096) % 16))), (0, .ref (a 0)), (1, .int (nI j))]) hx hb dX12_obeys_44 hl (k := 1) rfl (by decide) (by decide) rfl (fun ls hl => ?_)
                          refine lv_goto (tgt := 2) hx hb dX12_obeys_47 (by decide) ?_
                          refine lv_iload_n hx hb dX12_obeys_2 rfl (lv_at hl 0 rfl) ?_
                          refine lv_iconst (v := 4) hx hb dX12_obeys_3 (by decide) ?_
                          refine lv_icmp_ge (tgt := 50) hx hb dX12_obeys_4 (by decide) (fun c_33 => ?_) (fun c_33 => ?_)
                          · skip
                            refine lv_iconst (v := 0) hx hb dX12_obeys_50 (by decide) ?_
                            refine lv_istore_n (lv' := [(2, .int 0), (3, .int (nI ((j / 4096) % 16))), (0, .ref (a 0)), (1, .int (nI j))]) hx hb dX12_obeys_51 rfl hl (by decide) rfl (fun ls hl => ?_)
                            refine lv_iload_n hx hb dX12_obeys_52 rfl (lv_at hl 0 rfl) ?_
                            refine lv_aload_n hx hb dX12_obeys_53 rfl (lv_at hl 2 rfl) ?_
                            refine vp_callSi (va_runV (As := []) (rest := [.int 0]) ⟨hx, hb, hml, hown, ht⟩ (k_X12_lawsNow l D a i cI) (cwV 0 ht (zG_V zw_39 zw_40 zw_41 zw_2 zw_42) rfl rfl rfl (by decide +kernel) ⟨Nat.le_of_ble_eq_true rfl, Nat.le_of_ble_eq_true rfl⟩) (zR_V (va_recv hK hP (ci := 12) (q0 := 0) rfl rfl) hP hK) rfl rfl hl.1 rfl (lv_room (Nat.le_of_ble_eq_true rfl)) dX12_obeys_54 ⟨Nat.le_of_ble_eq_true rfl, Nat.le_of_ble_eq_true rfl⟩).run (fun r_34 hw_34 => ?_)
                            obtain rfl : r_34 = 0 := hw_34
                            refine lv_icmp_ge (tgt := 98) hx hb dX12_obeys_57 (by decide) (fun c_35 => ?_) (fun c_35 => ?_)
                            · skip
                              refine lv_iconst (v := 0) hx hb dX12_obeys_98 (by decide) ?_
                              refine lv_istore_n (lv' := [(2, .int 0), (3, .int (nI ((j / 4096) % 16))), (0, .ref (a 0)), (1, .int (nI j))]) hx hb dX12_obeys_99 rfl hl (by decide) rfl (fun ls hl => ?_)
                              refine lv_iload_n hx hb dX12_obeys_100 rfl (lv_at hl 0 rfl) ?_
                              refine lv_aload_n hx hb dX12_obeys_101 rfl (lv_at hl 2 rfl) ?_
                              refine va_get (D := D) (ci := 12) (v := .ref (a 1)) (C := RX12) (T := TX12) (N := 25) hx hb ht zinX12 hown hK hP 0 rfl rfl 1 (by decide) (ht _ zw_34) (fun _ h9 => h9) rfl dX12_obeys_102 ?_
                              refine lv_sipush (v := 3864) hx hb dX12_obeys_105 (by decide) ?_
                              refine va_iald hx hb hK hP 1 0 rfl rfl (vp_in_iff.mpr (by decide)) dX12_obeys_108 ?_
                              refine W.eq (g2 := F0 m 109 ls (.int 0 :: .int 0 :: [])) rfl ?_
                              refine lv_icmp_ge (tgt := 158) hx hb dX12_obeys_109 (by decide) (fun c_37 => ?_) (fun c_37 => ?_)
                              · skip
                                refine lv_iconst (v := 1) hx hb dX12_obeys_158 (by decide) ?_
                                refine W.widen (k := 0) (n := 0) (Nat.le_of_ble_eq_true rfl) (Nat.le_of_ble_eq_true rfl) ?_
                                exact W.zret (v := 1) hx hb hr rfl (fun t ht hW => ⟨1, rfl, (.inl ⟨rfl, by rw [nI_toInt (by omega)]; omega⟩), ht⟩) (fun q h => nomatch h) dX12_obeys_159
                              · skip
                                exact absurd c_37 (by decide)
                            · skip
                              exact absurd c_35 (by decide)
                          · skip
                            exact absurd c_33 (by decide)
                        · skip
                          simp only [fa_lt, fa_le, fa_eq, Int32.reduceToInt] at c_31
                          rw [nI_toInt (n := (j / 4096) % 16) (by omega)] at c_31
                          refine lv_iconst (v := 0) hx hb dX12_obeys_42 (by decide) ?_
                          refine W.widen (k := 0) (n := 0) (Nat.le_of_ble_eq_true rfl) (Nat.le_of_ble_eq_true rfl) ?_
                          exact W.zret (v := 0) hx hb hr rfl (fun t ht hW => ⟨0, rfl, (.inr ⟨rfl, by rw [nI_toInt (by omega)]; omega⟩), ht⟩) (fun q h => nomatch h) dX12_obeys_43
                      · skip
                        exact absurd c_30 (by decide)
                  · skip
                    simp only [fa_lt, fa_le, fa_eq, Int32.reduceToInt] at c_23
                    rw [nI_toInt (n := (j / 256) % 16) (by omega)] at c_23
                    refine lv_iconst (v := 0) hx hb dX12_obeys_42 (by decide) ?_
                    refine W.widen (k := 0) (n := 0) (Nat.le_of_ble_eq_true rfl) (Nat.le_of_ble_eq_true rfl) ?_
                    exact W.zret (v := 0) hx hb hr rfl (fun t ht hW => ⟨0, rfl, (.inr ⟨rfl, by rw [nI_toInt (by omega)]; omega⟩), ht⟩) (fun q h => nomatch h) dX12_obeys_43
                · skip
                  exact absurd c_22 (by decide)
            · skip
              simp only [fa_lt, fa_le, fa_eq, Int32.reduceToInt] at c_15
              rw [nI_toInt (n := (j / 16) % 16) (by omega)] at c_15
              refine lv_iconst (v := 0) hx hb dX12_obeys_42 (by decide) ?_
              refine W.widen (k := 0) (n := 0) (Nat.le_of_ble_eq_true rfl) (Nat.le_of_ble_eq_true rfl) ?_
              exact W.zret (v := 0) hx hb hr rfl (fun t ht hW => ⟨0, rfl, (.inr ⟨rfl, by rw [nI_toInt (by omega)]; omega⟩), ht⟩) (fun q h => nomatch h) dX12_obeys_43
          · skip
            exact absurd c_14 (by decide)
      · skip
        simp only [fa_lt, fa_le, fa_eq, Int32.reduceToInt] at c_7
        rw [nI_toInt (n := j % 16) (by omega)] at c_7
        refine lv_iconst (v := 0) hx hb dX12_obeys_42 (by decide) ?_
        refine W.widen (k := 0) (n := 0) (Nat.le_of_ble_eq_true rfl) (Nat.le_of_ble_eq_true rfl) ?_
        exact W.zret (v := 0) hx hb hr rfl (fun t ht hW => ⟨0, rfl, (.inr ⟨rfl, by rw [nI_toInt (by omega)]; omega⟩), ht⟩) (fun q h => nomatch h) dX12_obeys_43
    · skip
      exact absurd c_6 (by decide)
set_option maxHeartbeats 4000000 in
set_option maxRecDepth 100000 in
theorem k_X12_orders (l : Launch) (sz : Nat) (D : va_G) (a : Nat → Nat) (cI : ClassId) : Met l yX12_orders (.code yX12_orders cX12_orders 3 (some .int) :: zT) ({ frames := 2, cells := 0, slots := 0, locals := 43 }) (va_Pc [.ref (a 0)] (zM D [((a 0), .inr (12, zMo a zI0)), ((a 1), .inl (cI, 6792, .inl zI0))] [(cI, .int)] sz)) (va_Qi (fun (r : Int32) (_ : Unit) => r = 1) (fun _ t => zE D [] [] (va_A [((a 0), .inr (12, zMo a zI0)), ((a 1), .inl (cI, 6792, .inl zI0))] sz) t) (va_A [((a 0), .inr (12, zMo a zI0)), ((a 1), .inl (cI, 6792, .inl zI0))] sz)) 0 0 (va_A [((a 0), .inr (12, zMo a zI0)), ((a 1), .inl (cI, 6792, .inl zI0))] sz) := by
  refine Met.ofW (cc := cX12_orders) (maxL := 3) (ret := (some .int)) (by decide) rfl ?_
  intro p e s m args below meth c s₁ B hml hv
  obtain ⟨rfl, hsz, hP, hK, hD0⟩ := hv
  have hx := B.exec
  have hb := B.bytes
  have hr := B.returns
  have hts := atoms_spec (ws := (.code yX12_orders cX12_orders 3 (some .int) :: zT)) B.pre
  have ht : ∀ w ∈ zT, w.before _ s = true := fun w h => hts w (List.mem_cons_of_mem _ h)
  have hown : s.vm.findClass RX12 = some m.cls := findClass_of_methodNamed B.named
  have hlocks := B.notSynchronized
  subst hsz
  have hD := hD0.self (sz := s.heap.size)
  generalize hAe : va_A [((a 0), .inr (12, zMo a zI0)), ((a 1), .inl (cI, 6792, .inl zI0))] s.heap.size = A at hD ⊢
  have hA : ∀ q : Nat, s.heap.size ≤ q → A q := fun q h => by rw [← hAe]; exact Or.inr h
  have hS : va_S A s.heap s.heap [] := va_S.rf
  have hP : va_P D vwCl [((a 0), .inr (12, zMo a zI0)), ((a 1), .inl (cI, 6792, .inl zI0))] s.heap := hP
  have hl := lv_entry ([.ref (a 0)]) (n := 3) (Nat.le_of_ble_eq_true rfl)
  rw [lg_entry_eq]
  generalize (lg_sl ([.ref (a 0)]) ++ List.replicate (3 - (lg_sl ([.ref (a 0)])).length) Slot.unset).toArray = ls at hl ⊢
  have hl : lv_has ls 3 [(0, .ref (a 0))] := hl
  skip
  refine lv_aload_n hx hb dX12_orders_0 rfl (lv_at hl 0 rfl) ?_
  refine lv_iconst (v := 0) hx hb dX12_orders_1 (by decide) ?_
  refine va_put (D := D) (ci := 12) (v := .int 0) (ty := .int) (C := RX12) (T := TX12) (N := 25) hx hb ht zinX12 tyX12 tyX12_ok nmX12 hown hK hP hD hS 0 rfl rfl 0 (by decide) (ht _ zw_29) (fun _ h9 => h9) rfl (by decide +kernel) rfl rfl (Nat.le_of_ble_eq_true rfl) dX12_orders_2 (fun H locs hP hD hS => ?_)
  have hP : va_P D vwCl [((a 0), .inr (12, zMo a (upd zI0 0 0))), ((a 1), .inl (cI, 6792, .inl zI0))] H := hP
  have hD : va_D A [((a 0), .inr (12, zMo a (upd zI0 0 0))), ((a 1), .inl (cI, 6792, .inl zI0))] := hD
  refine lv_iconst (v := 0) hx hb dX12_orders_5 (by decide) ?_
  refine lv_istore_n (lv' := [(1, .int 0), (0, .ref (a 0))]) hx hb dX12_orders_6 rfl hl (by decide) rfl (fun ls hl => ?_)
  refine lv_iconst (v := 0) hx hb dX12_orders_7 (by decide) ?_
  refine lv_istore_n (lv' := [(2, .int 0), (1, .int 0), (0, .ref (a 0))]) hx hb dX12_orders_8 rfl hl (by decide) rfl (fun ls hl => ?_)
  have hloop_1 : ∀ (n_1 : Nat) (x1 : Int32) (x2 : Int32), 0 ≤ x2.toInt → x2.toInt ≤ 65536 → 65536 - x2.toInt < n_1 → ((x2.toInt = 0 → x1 = 0) ∧ (0 < x2.toInt → x1 = 1)) → ∀ (ls : Array Slot), lv_has ls 3 [(1, .int x1), (2, .int x2), (0, .ref (a 0))] → W p l e (headSpec (.code yX12_orders cX12_orders 3 (some .int) :: zT) ({ frames := 2, cells := 0, slots := 0, locals := 43 })).room s m (([.ref (a 0)] : List Value)).toArray below meth c H locs 0 0 (MQ below (va_Qi (fun (r : Int32) (_ : Unit) => r = 1) (fun _ t => zE D [] [] A t) A) (([.ref (a 0)] : List Value)).toArray s 0 0 A) (F0 m 9 ls []) := by
    intro n_1
    induction n_1 with
    | zero => intro x1 x2 hx0 hx1 hx2; intros; exfalso; omega
    | succ n_1 ih_1 =>
      intro x1 x2 hlo_1 hhi_1 hms_1 inv ls hl
      refine lv_iload_n hx hb dX12_orders_9 rfl (lv_at hl 1 rfl) ?_
      refine lv_ldcw (v := 65536) hx hb hown (ht _ zw_111) dX12_orders_10 ?_
      refine lv_icmp_ge (tgt := 38) hx hb dX12_orders_13 (by decide) (fun c_2 => ?_) (fun c_2 => ?_)
      · skip
        simp only [fa_lt, fa_le, fa_eq, Int32.reduceToInt] at c_2
        refine lv_iload_n hx hb dX12_orders_38 rfl (lv_at hl 0 rfl) ?_
        have hP9 := hP.sub (ws' := []) [] rfl
        have hD9 := hD.sub (ws' := []) [] (by decide) rfl
        have hK9 := hK.sub (tys' := []) [] rfl
        refine W.widen (k := 0) (n := 0) (Nat.le_of_ble_eq_true rfl) (Nat.le_of_ble_eq_true rfl) ?_
        exact W.iret (v := x1) hx hb hr (fun t ht0 hW => ⟨⟨x1, (), rfl, (inv.2 (by omega)), (zE_of hP9 hK9 hD9 ht0 hW)⟩, hS.F ht0⟩) hS.2.2 dX12_orders_39
      · skip
        simp only [fa_lt, fa_le, fa_eq, Int32.reduceToInt] at c_2
        refine lv_iload_n hx hb dX12_orders_16 rfl (lv_at hl 0 rfl) ?_
        refine lv_aload_n hx hb dX12_orders_17 rfl (lv_at hl 2 rfl) ?_
        refine lv_iload_n hx hb dX12_orders_18 rfl (lv_at hl 1 rfl) ?_
        refine vp_callSi (va_runV (As := [.int x2]) (rest := [.int x1]) ⟨hx, hb, hml, hown, ht⟩ (k_X12_obeys l D a (upd zI0 0 0) cI x2 ⟨by omega, by omega⟩) (cwV 1 ht (zG_V zw_112 zw_113 zw_114 zw_2 zw_115) rfl rfl rfl (by decide +kernel) ⟨Nat.le_of_ble_eq_true rfl, Nat.le_of_ble_eq_true rfl⟩) (zR_V (va_recv hK hP (ci := 12) (q0 := 0) rfl rfl) hP hK) rfl rfl hl.1 rfl (lv_room (Nat.le_of_ble_eq_true rfl)) dX12_orders_19 ⟨Nat.le_of_ble_eq_true rfl, Nat.le_of_ble_eq_true rfl⟩).run (fun r_3 hw_3 => ?_)
        rcases hw_3 with ⟨rfl, h_3⟩ | ⟨rfl, h_3⟩
        · skip
          refine lv_if_eq (tgt := 29) hx hb dX12_orders_22 (by decide) (fun c_4 => ?_) (fun c_4 => ?_)
          · skip
            exact absurd c_4 (by decide)
          · skip
            refine lv_iconst (v := 1) hx hb dX12_orders_25 (by decide) ?_
            refine lv_goto (tgt := 30) hx hb dX12_orders_26 (by decide) ?_
            refine lv_iadd hx hb dX12_orders_30 ?_
            refine lv_topi (fun x_5 e_5 => ?_)
            refine lv_istore_n (lv' := [(1, .int x_5), (2, .int x2), (0, .ref (a 0))]) hx hb dX12_orders_31 rfl hl (by decide) rfl (fun ls hl => ?_)
            obtain ⟨x_6, e_6⟩ : ∃ y : Int32, y = x2 + 1 := ⟨_, rfl⟩
            refine lv_iinc (v := x_6) (lv' := [(2, .int x_6), (1, .int x_5), (0, .ref (a 0))]) hx hb dX12_orders_32 hl (k := 1) rfl (by rw [e_6]; rfl) (by decide) rfl (fun ls hl => ?_)
            refine lv_goto (tgt := 9) hx hb dX12_orders_35 (by decide) ?_
            have hinc_7 : x_6.toInt = x2.toInt + 1 := by rw [e_6]; exact zinc (by omega)
            exact ih_1 x_5 x_6 (by omega) (by omega) (by omega) ⟨fun h => by omega, fun h => by rw [e_5]; by_cases hz : x2.toInt = 0 <;> first | (rw [inv.1 hz]; rfl) | (rw [inv.2 (by omega)]; rfl) | (exfalso; omega)⟩  ls (lv_sub hl [1, 0, 2] rfl)
        · skip
          refine lv_if_eq (tgt := 29) hx hb dX12_orders_22 (by decide) (fun c_8 => ?_) (fun c_8 => ?_)
          · skip
            refine lv_iconst (v := 0) hx hb dX12_orders_29 (by decide) ?_
            refine lv_iadd hx hb dX12_orders_30 ?_
            refine lv_topi (fun x_9 e_9 => ?_)
            refine lv_istore_n (lv' := [(1, .int x_9), (2, .int x2), (0, .ref (a 0))]) hx hb dX12_orders_31 rfl hl (by decide) rfl (fun ls hl => ?_)
            obtain ⟨x_10, e_10⟩ : ∃ y : Int32, y = x2 + 1 := ⟨_, rfl⟩
            refine lv_iinc (v := x_10) (lv' := [(2, .int x_10), (1, .int x_9), (0, .ref (a 0))]) hx hb dX12_orders_32 hl (k := 1) rfl (by rw [e_10]; rfl) (by decide) rfl (fun ls hl => ?_)
            refine lv_goto (tgt := 9) hx hb dX12_orders_35 (by decide) ?_
            have hinc_11 : x_10.toInt = x2.toInt + 1 := by rw [e_10]; exact zinc (by omega)
            exact ih_1 x_9 x_10 (by omega) (by omega) (by omega) ⟨fun h => by omega, fun h => by rw [e_9]; by_cases hz : x2.toInt = 0 <;> first | (rw [inv.1 hz]; rfl) | (rw [inv.2 (by omega)]; rfl) | (exfalso; omega)⟩  ls (lv_sub hl [1, 0, 2] rfl)
          · skip
            exact absurd c_8 (by decide)
  refine hloop_1 65537 0 0 (by decide) (by decide) (by decide) ⟨fun _ => rfl, fun h => absurd h (by decide)⟩  ls (lv_sub hl [1, 0, 2] rfl)
