abbrev cX12_atRegister : ByteArray := prog_14_method_9_code
def yX12_atRegister : MethodName := ⟨RX12, "atRegister", "(I)I"⟩
theorem dX12_atRegister_0 : decode cX12_atRegister 0 = .ok (.bipush 13, 2) := by decide +kernel
theorem dX12_atRegister_2 : decode cX12_atRegister 2 = .ok (.bipush 41, 2) := by decide +kernel
theorem dX12_atRegister_4 : decode cX12_atRegister 4 = .ok (.iload_n 1, 1) := by decide +kernel
theorem dX12_atRegister_5 : decode cX12_atRegister 5 = .ok (.imul, 1) := by decide +kernel
theorem dX12_atRegister_6 : decode cX12_atRegister 6 = .ok (.iadd, 1) := by decide +kernel
theorem dX12_atRegister_7 : decode cX12_atRegister 7 = .ok (.ireturn, 1) := by decide +kernel
set_option maxHeartbeats 4000000 in
set_option maxRecDepth 100000 in
theorem k_X12_atRegister (l : Launch) (b : Nat) (k : Int32) : Met l yX12_atRegister (.code yX12_atRegister cX12_atRegister 2 (some .int) :: zT) ({ frames := 0, cells := 0, slots := 0, locals := 0 }) (va_Pc [.ref b, .int k] (fun _ => True)) (vp_Si (fun r => r = 13 + 41 * k)) 0 0 (fun _ => False) := by
  refine Met.ofW (cc := cX12_atRegister) (maxL := 2) (ret := (some .int)) (by decide) rfl ?_
  intro p e s m args below meth c s₁ B hml hv
  obtain ⟨rfl, -⟩ := hv
  have hx := B.exec
  have hb := B.bytes
  have hr := B.returns
  have hts := atoms_spec (ws := (.code yX12_atRegister cX12_atRegister 2 (some .int) :: zT)) B.pre
  have ht : ∀ w ∈ zT, w.before _ s = true := fun w h => hts w (List.mem_cons_of_mem _ h)
  have hown : s.vm.findClass RX12 = some m.cls := findClass_of_methodNamed B.named
  have hlocks := B.notSynchronized
  have hl := lv_entry ([.ref b, .int k]) (n := 2) (Nat.le_of_ble_eq_true rfl)
  rw [lg_entry_eq]
  generalize (lg_sl ([.ref b, .int k]) ++ List.replicate (2 - (lg_sl ([.ref b, .int k])).length) Slot.unset).toArray = ls at hl ⊢
  have hl : lv_has ls 2 [(0, .ref b), (1, .int k)] := hl
  skip
  refine lv_bipush (v := 13) hx hb dX12_atRegister_0 (by decide) ?_
  refine lv_bipush (v := 41) hx hb dX12_atRegister_2 (by decide) ?_
  refine lv_iload_n hx hb dX12_atRegister_4 rfl (lv_at hl 1 rfl) ?_
  refine lv_imul hx hb dX12_atRegister_5 ?_
  refine lv_topi (fun x_1 e_1 => ?_)
  refine lv_iadd hx hb dX12_atRegister_6 ?_
  refine lv_topi (fun x_2 e_2 => ?_)
  refine W.widen (k := 0) (n := 0) (Nat.le_of_ble_eq_true rfl) (Nat.le_of_ble_eq_true rfl) ?_
  exact W.iret (v := x_2) hx hb hr (fun t ht hW => ⟨x_2, rfl, (by rw [e_2, e_1]), ht⟩) (fun q h => nomatch h) dX12_atRegister_7
abbrev cX12_atChain : ByteArray := prog_14_method_43_code
def yX12_atChain : MethodName := ⟨RX12, "atChain", "(I)I"⟩
theorem dX12_atChain_0 : decode cX12_atChain 0 = .ok (.sipush 4772, 3) := by decide +kernel
theorem dX12_atChain_3 : decode cX12_atChain 3 = .ok (.sipush 505, 3) := by decide +kernel
theorem dX12_atChain_6 : decode cX12_atChain 6 = .ok (.iload_n 1, 1) := by decide +kernel
theorem dX12_atChain_7 : decode cX12_atChain 7 = .ok (.imul, 1) := by decide +kernel
theorem dX12_atChain_8 : decode cX12_atChain 8 = .ok (.iadd, 1) := by decide +kernel
theorem dX12_atChain_9 : decode cX12_atChain 9 = .ok (.ireturn, 1) := by decide +kernel
set_option maxHeartbeats 4000000 in
set_option maxRecDepth 100000 in
theorem k_X12_atChain (l : Launch) (b : Nat) (k : Int32) : Met l yX12_atChain (.code yX12_atChain cX12_atChain 2 (some .int) :: zT) ({ frames := 0, cells := 0, slots := 0, locals := 0 }) (va_Pc [.ref b, .int k] (fun _ => True)) (vp_Si (fun r => r = 4772 + 505 * k)) 0 0 (fun _ => False) := by
  refine Met.ofW (cc := cX12_atChain) (maxL := 2) (ret := (some .int)) (by decide) rfl ?_
  intro p e s m args below meth c s₁ B hml hv
  obtain ⟨rfl, -⟩ := hv
  have hx := B.exec
  have hb := B.bytes
  have hr := B.returns
  have hts := atoms_spec (ws := (.code yX12_atChain cX12_atChain 2 (some .int) :: zT)) B.pre
  have ht : ∀ w ∈ zT, w.before _ s = true := fun w h => hts w (List.mem_cons_of_mem _ h)
  have hown : s.vm.findClass RX12 = some m.cls := findClass_of_methodNamed B.named
  have hlocks := B.notSynchronized
  have hl := lv_entry ([.ref b, .int k]) (n := 2) (Nat.le_of_ble_eq_true rfl)
  rw [lg_entry_eq]
  generalize (lg_sl ([.ref b, .int k]) ++ List.replicate (2 - (lg_sl ([.ref b, .int k])).length) Slot.unset).toArray = ls at hl ⊢
  have hl : lv_has ls 2 [(0, .ref b), (1, .int k)] := hl
  skip
  refine lv_sipush (v := 4772) hx hb dX12_atChain_0 (by decide) ?_
  refine lv_sipush (v := 505) hx hb dX12_atChain_3 (by decide) ?_
  refine lv_iload_n hx hb dX12_atChain_6 rfl (lv_at hl 1 rfl) ?_
  refine lv_imul hx hb dX12_atChain_7 ?_
  refine lv_topi (fun x_1 e_1 => ?_)
  refine lv_iadd hx hb dX12_atChain_8 ?_
  refine lv_topi (fun x_2 e_2 => ?_)
  refine W.widen (k := 0) (n := 0) (Nat.le_of_ble_eq_true rfl) (Nat.le_of_ble_eq_true rfl) ?_
  exact W.iret (v := x_2) hx hb hr (fun t ht hW => ⟨x_2, rfl, (by rw [e_2, e_1]), ht⟩) (fun q h => nomatch h) dX12_atChain_9
abbrev cX12_isFull : ByteArray := prog_14_method_10_code
def yX12_isFull : MethodName := ⟨RX12, "isFull", "(I)Z"⟩
theorem dX12_isFull_0 : decode cX12_isFull 0 = .ok (.aload_n 0, 1) := by decide +kernel
theorem zw_34 : Cond.fieldLink RX12 9 RX12 "s" "[I" ∈ zT := zT_of 1489 (by decide +kernel) (by decide +kernel)
theorem dX12_isFull_1 : decode cX12_isFull 1 = .ok (.getfield 9, 3) := by decide +kernel
theorem dX12_isFull_4 : decode cX12_isFull 4 = .ok (.aload_n 0, 1) := by decide +kernel
theorem dX12_isFull_5 : decode cX12_isFull 5 = .ok (.iload_n 1, 1) := by decide +kernel
theorem zw_35 : Cond.methodLink RX12 64 yX12_atRegister ∈ zT := zT_of 1595 (by decide +kernel) (by decide +kernel)
theorem zw_36 : Cond.instanceMethod yX12_atRegister ∈ zT := zT_of 1597 (by decide +kernel) (by decide +kernel)
theorem zw_37 : Cond.selects RX12 yX12_atRegister yX12_atRegister ∈ zT := zT_ofS 39 (by decide +kernel) (by decide +kernel)
theorem zw_38 : Cond.code yX12_atRegister cX12_atRegister 2 (some .int) ∈ zT := zT_of 1598 (by decide +kernel) (by decide +kernel)
theorem dX12_isFull_6 : decode cX12_isFull 6 = .ok (.invokevirtual 64, 3) := by decide +kernel
theorem dX12_isFull_9 : decode cX12_isFull 9 = .ok (.iaload, 1) := by decide +kernel
theorem dX12_isFull_10 : decode cX12_isFull 10 = .ok (.ifCond .le 7, 3) := by decide +kernel
theorem dX12_isFull_17 : decode cX12_isFull 17 = .ok (.iconst 0, 1) := by decide +kernel
theorem dX12_isFull_18 : decode cX12_isFull 18 = .ok (.ireturn, 1) := by decide +kernel
set_option maxHeartbeats 4000000 in
set_option maxRecDepth 100000 in
theorem k_X12_isFull (l : Launch) (D : va_G) (a : Nat → Nat) (i : Nat → Int32) (cI : ClassId) (k : Int32) (hk : 0 ≤ k.toInt ∧ k.toInt ≤ 9) : Met l yX12_isFull (.code yX12_isFull cX12_isFull 2 (some .boolean) :: zT) ({ frames := 1, cells := 0, slots := 0, locals := 21 }) (va_Pc [.ref (a 0), .int k] (zR D [((a 0), .inr (12, zMo a i)), ((a 1), .inl (cI, 6792, .inl zI0))] [(cI, .int)])) (vp_Si (fun r => r = 0)) 0 0 (fun _ => False) := by
  refine Met.ofW (cc := cX12_isFull) (maxL := 2) (ret := (some .boolean)) (by decide) rfl ?_
  intro p e s m args below meth c s₁ B hml hv
  obtain ⟨rfl, hP, hK⟩ := hv
  have hx := B.exec
  have hb := B.bytes
  have hr := B.returns
  have hts := atoms_spec (ws := (.code yX12_isFull cX12_isFull 2 (some .boolean) :: zT)) B.pre
  have ht : ∀ w ∈ zT, w.before _ s = true := fun w h => hts w (List.mem_cons_of_mem _ h)
  have hown : s.vm.findClass RX12 = some m.cls := findClass_of_methodNamed B.named
  have hlocks := B.notSynchronized
  have hl := lv_entry ([.ref (a 0), .int k]) (n := 2) (Nat.le_of_ble_eq_true rfl)
  rw [lg_entry_eq]
  generalize (lg_sl ([.ref (a 0), .int k]) ++ List.replicate (2 - (lg_sl ([.ref (a 0), .int k])).length) Slot.unset).toArray = ls at hl ⊢
  have hl : lv_has ls 2 [(0, .ref (a 0)), (1, .int k)] := hl
  skip
  refine lv_aload_n hx hb dX12_isFull_0 rfl (lv_at hl 0 rfl) ?_
  refine va_get (D := D) (ci := 12) (v := .ref (a 1)) (C := RX12) (T := TX12) (N := 25) hx hb ht zinX12 hown hK hP 0 rfl rfl 1 (by decide) (ht _ zw_34) (fun _ h9 => h9) rfl dX12_isFull_1 ?_
  refine lv_aload_n hx hb dX12_isFull_4 rfl (lv_at hl 0 rfl) ?_
  refine lv_iload_n hx hb dX12_isFull_5 rfl (lv_at hl 1 rfl) ?_
  refine vp_callSi (va_runV (As := [.int k]) (rest := [.ref (a 1)]) ⟨hx, hb, hml, hown, ht⟩ (k_X12_atRegister l (a 0) k) (cwV 1 ht (zG_V zw_35 zw_36 zw_37 zw_2 zw_38) rfl rfl rfl (by decide +kernel) ⟨Nat.le_of_ble_eq_true rfl, Nat.le_of_ble_eq_true rfl⟩) (zN_V (va_recv hK hP (ci := 12) (q0 := 0) rfl rfl)) rfl rfl hl.1 rfl (lv_room (Nat.le_of_ble_eq_true rfl)) dX12_isFull_6 ⟨Nat.le_of_ble_eq_true rfl, Nat.le_of_ble_eq_true rfl⟩).run (fun r_1 hw_1 => ?_)
  have hi_1 : vp_in r_1 6792 := by rw [hw_1]; exact zreg_in hk.1 hk.2
  refine va_iald hx hb hK hP 1 0 rfl rfl hi_1 dX12_isFull_9 ?_
  refine W.eq (g2 := F0 m 10 ls (.int 0 :: [])) rfl ?_
  refine lv_if_le (tgt := 17) hx hb dX12_isFull_10 (by decide) (fun c_3 => ?_) (fun c_3 => ?_)
  · skip
    refine lv_iconst (v := 0) hx hb dX12_isFull_17 (by decide) ?_
    refine W.widen (k := 0) (n := 0) (Nat.le_of_ble_eq_true rfl) (Nat.le_of_ble_eq_true rfl) ?_
    exact W.zret (v := 0) hx hb hr rfl (fun t ht hW => ⟨0, rfl, rfl, ht⟩) (fun q h => nomatch h) dX12_isFull_18
  · skip
    exact absurd c_3 (by decide)
abbrev cX12_lawsNow : ByteArray := prog_14_method_27_code
def yX12_lawsNow : MethodName := ⟨RX12, "lawsNow", "()I"⟩
theorem dX12_lawsNow_0 : decode cX12_lawsNow 0 = .ok (.aload_n 0, 1) := by decide +kernel
theorem dX12_lawsNow_1 : decode cX12_lawsNow 1 = .ok (.getfield 9, 3) := by decide +kernel
theorem dX12_lawsNow_4 : decode cX12_lawsNow 4 = .ok (.sipush 423, 3) := by decide +kernel
theorem dX12_lawsNow_7 : decode cX12_lawsNow 7 = .ok (.iaload, 1) := by decide +kernel
theorem dX12_lawsNow_8 : decode cX12_lawsNow 8 = .ok (.ireturn, 1) := by decide +kernel
set_option maxHeartbeats 4000000 in
set_option maxRecDepth 100000 in
theorem k_X12_lawsNow (l : Launch) (D : va_G) (a : Nat → Nat) (i : Nat → Int32) (cI : ClassId) : Met l yX12_lawsNow (.code yX12_lawsNow cX12_lawsNow 1 (some .int) :: zT) ({ frames := 0, cells := 0, slots := 0, locals := 0 }) (va_Pc [.ref (a 0)] (zR D [((a 0), .inr (12, zMo a i)), ((a 1), .inl (cI, 6792, .inl zI0))] [(cI, .int)])) (vp_Si (fun r => r = 0)) 0 0 (fun _ => False) := by
  refine Met.ofW (cc := cX12_lawsNow) (maxL := 1) (ret := (some .int)) (by decide) rfl ?_
  intro p e s m args below meth c s₁ B hml hv
  obtain ⟨rfl, hP, hK⟩ := hv
  have hx := B.exec
  have hb := B.bytes
  have hr := B.returns
  have hts := atoms_spec (ws := (.code yX12_lawsNow cX12_lawsNow 1 (some .int) :: zT)) B.pre
  have ht : ∀ w ∈ zT, w.before _ s = true := fun w h => hts w (List.mem_cons_of_mem _ h)
  have hown : s.vm.findClass RX12 = some m.cls := findClass_of_methodNamed B.named
  have hlocks := B.notSynchronized
  have hl := lv_entry ([.ref (a 0)]) (n := 1) (Nat.le_of_ble_eq_true rfl)
  rw [lg_entry_eq]
  generalize (lg_sl ([.ref (a 0)]) ++ List.replicate (1 - (lg_sl ([.ref (a 0)])).length) Slot.unset).toArray = ls at hl ⊢
  have hl : lv_has ls 1 [(0, .ref (a 0))] := hl
  skip
  refine lv_aload_n hx hb dX12_lawsNow_0 rfl (lv_at hl 0 rfl) ?_
  refine va_get (D := D) (ci := 12) (v := .ref (a 1)) (C := RX12) (T := TX12) (N := 25) hx hb ht zinX12 hown hK hP 0 rfl rfl 1 (by decide) (ht _ zw_34) (fun _ h9 => h9) rfl dX12_lawsNow_1 ?_
  refine lv_sipush (v := 423) hx hb dX12_lawsNow_4 (by decide) ?_
  refine va_iald hx hb hK hP 1 0 rfl rfl (vp_in_iff.mpr (by decide)) dX12_lawsNow_7 ?_
  refine W.eq (g2 := F0 m 8 ls (.int 0 :: [])) rfl ?_
  refine W.widen (k := 0) (n := 0) (Nat.le_of_ble_eq_true rfl) (Nat.le_of_ble_eq_true rfl) ?_
  exact W.iret (v := 0) hx hb hr (fun t ht hW => ⟨0, rfl, rfl, ht⟩) (fun q h => nomatch h) dX12_lawsNow_8
abbrev cX12_openNow : ByteArray := prog_14_method_31_code
def yX12_openNow : MethodName := ⟨RX12, "openNow", "()I"⟩
theorem dX12_openNow_0 : decode cX12_openNow 0 = .ok (.aload_n 0, 1) := by decide +kernel
theorem dX12_openNow_1 : decode cX12_openNow 1 = .ok (.getfield 9, 3) := by decide +kernel
theorem dX12_openNow_4 : decode cX12_openNow 4 = .ok (.sipush 4525, 3) := by decide +kernel
theorem dX12_openNow_7 : decode cX12_openNow 7 = .ok (.iaload, 1) := by decide +kernel
theorem dX12_openNow_8 : decode cX12_openNow 8 = .ok (.ireturn, 1) := by decide +kernel
set_option maxHeartbeats 4000000 in
set_option maxRecDepth 100000 in
theorem k_X12_openNow (l : Launch) (D : va_G) (a : Nat → Nat) (i : Nat → Int32) (cI : ClassId) : Met l yX12_openNow (.code yX12_openNow cX12_openNow 1 (some .int) :: zT) ({ frames := 0, cells := 0, slots := 0, locals := 0 }) (va_Pc [.ref (a 0)] (zR D [((a 0), .inr (12, zMo a i)), ((a 1), .inl (cI, 6792, .inl zI0))] [(cI, .int)])) (vp_Si (fun r => r = 0)) 0 0 (fun _ => False) := by
  refine Met.ofW (cc := cX12_openNow) (maxL := 1) (ret := (some .int)) (by decide) rfl ?_
  intro p e s m args below meth c s₁ B hml hv
  obtain ⟨rfl, hP, hK⟩ := hv
  have hx := B.exec
  have hb := B.bytes
  have hr := B.returns
  have hts := atoms_spec (ws := (.code yX12_openNow cX12_openNow 1 (some .int) :: zT)) B.pre
  have ht : ∀ w ∈ zT, w.before _ s = true := fun w h => hts w (List.mem_cons_of_mem _ h)
  have hown : s.vm.findClass RX12 = some m.cls := findClass_of_methodNamed B.named
  have hlocks := B.notSynchronized
  have hl := lv_entry ([.ref (a 0)]) (n := 1) (Nat.le_of_ble_eq_true rfl)
  rw [lg_entry_eq]
  generalize (lg_sl ([.ref (a 0)]) ++ List.replicate (1 - (lg_sl ([.ref (a 0)])).length) Slot.unset).toArray = ls at hl ⊢
  have hl : lv_has ls 1 [(0, .ref (a 0))] := hl
  skip
  refine lv_aload_n hx hb dX12_openNow_0 rfl (lv_at hl 0 rfl) ?_
  refine va_get (D := D) (ci := 12) (v := .ref (a 1)) (C := RX12) (T := TX12) (N := 25) hx hb ht zinX12 hown hK hP 0 rfl rfl 1 (by decide) (ht _ zw_34) (fun _ h9 => h9) rfl dX12_openNow_1 ?_
  refine lv_sipush (v := 4525) hx hb dX12_openNow_4 (by decide) ?_
  refine va_iald hx hb hK hP 1 0 rfl rfl (vp_in_iff.mpr (by decide)) dX12_openNow_7 ?_
  refine W.eq (g2 := F0 m 8 ls (.int 0 :: [])) rfl ?_
  refine W.widen (k := 0) (n := 0) (Nat.le_of_ble_eq_true rfl) (Nat.le_of_ble_eq_true rfl) ?_
  exact W.iret (v := 0) hx hb hr (fun t ht hW => ⟨0, rfl, rfl, ht⟩) (fun q h => nomatch h) dX12_openNow_8
abbrev cX12_atLaw : ByteArray := prog_14_method_28_code
def yX12_atLaw : MethodName := ⟨RX12, "atLaw", "(I)I"⟩
theorem dX12_atLaw_0 : decode cX12_atLaw 0 = .ok (.iconst 0, 1) := by decide +kernel
theorem dX12_atLaw_1 : decode cX12_atLaw 1 = .ok (.istore_n 2, 1) := by decide +kernel
theorem dX12_atLaw_2 : decode cX12_atLaw 2 = .ok (.iload_n 2, 1) := by decide +kernel
theorem dX12_atLaw_3 : decode cX12_atLaw 3 = .ok (.aload_n 0, 1) := by decide +kernel
theorem zw_39 : Cond.methodLink RX12 112 yX12_lawsNow ∈ zT := zT_of 1674 (by decide +kernel) (by decide +kernel)
theorem zw_40 : Cond.instanceMethod yX12_lawsNow ∈ zT := zT_of 1676 (by decide +kernel) (by decide +kernel)
theorem zw_41 : Cond.selects RX12 yX12_lawsNow yX12_lawsNow ∈ zT := zT_ofS 54 (by decide +kernel) (by decide +kernel)
theorem zw_42 : Cond.code yX12_lawsNow cX12_lawsNow 1 (some .int) ∈ zT := zT_of 1677 (by decide +kernel) (by decide +kernel)
theorem dX12_atLaw_4 : decode cX12_atLaw 4 = .ok (.invokevirtual 112, 3) := by decide +kernel
theorem dX12_atLaw_7 : decode cX12_atLaw 7 = .ok (.if_icmp .ge 39, 3) := by decide +kernel
theorem dX12_atLaw_46 : decode cX12_atLaw 46 = .ok (.iconst (-1), 1) := by decide +kernel
theorem dX12_atLaw_47 : decode cX12_atLaw 47 = .ok (.ireturn, 1) := by decide +kernel
set_option maxHeartbeats 4000000 in
set_option maxRecDepth 100000 in
theorem k_X12_atLaw (l : Launch) (D : va_G) (a : Nat → Nat) (i : Nat → Int32) (cI : ClassId) (k : Int32) : Met l yX12_atLaw (.code yX12_atLaw cX12_atLaw 3 (some .int) :: zT) ({ frames := 1, cells := 0, slots := 0, locals := 20 }) (va_Pc [.ref (a 0), .int k] (zR D [((a 0), .inr (12, zMo a i)), ((a 1), .inl (cI, 6792, .inl zI0))] [(cI, .int)])) (vp_Si (fun r => r = -1)) 0 0 (fun _ => False) := by
  refine Met.ofW (cc := cX12_atLaw) (maxL := 3) (ret := (some .int)) (by decide) rfl ?_
  intro p e s m args below meth c s₁ B hml hv
  obtain ⟨rfl, hP, hK⟩ := hv
  have hx := B.exec
  have hb := B.bytes
  have hr := B.returns
  have hts := atoms_spec (ws := (.code yX12_atLaw cX12_atLaw 3 (some .int) :: zT)) B.pre
  have ht : ∀ w ∈ zT, w.before _ s = true := fun w h => hts w (List.mem_cons_of_mem _ h)
  have hown : s.vm.findClass RX12 = some m.cls := findClass_of_methodNamed B.named
  have hlocks := B.notSynchronized
  have hl := lv_entry ([.ref (a 0), .int k]) (n := 3) (Nat.le_of_ble_eq_true rfl)
  rw [lg_entry_eq]
  generalize (lg_sl ([.ref (a 0), .int k]) ++ List.replicate (3 - (lg_sl ([.ref (a 0), .int k])).length) Slot.unset).toArray = ls at hl ⊢
  have hl : lv_has ls 3 [(0, .ref (a 0)), (1, .int k)] := hl
  skip
  refine lv_iconst (v := 0) hx hb dX12_atLaw_0 (by decide) ?_
  refine lv_istore_n (lv' := [(2, .int 0), (0, .ref (a 0)), (1, .int k)]) hx hb dX12_atLaw_1 rfl hl (by decide) rfl (fun ls hl => ?_)
  refine lv_iload_n hx hb dX12_atLaw_2 rfl (lv_at hl 0 rfl) ?_
  refine lv_aload_n hx hb dX12_atLaw_3 rfl (lv_at hl 1 rfl) ?_
  refine vp_callSi (va_runV (As := []) (rest := [.int 0]) ⟨hx, hb, hml, hown, ht⟩ (k_X12_lawsNow l D a i cI) (cwV 0 ht (zG_V zw_39 zw_40 zw_41 zw_2 zw_42) rfl rfl rfl (by decide +kernel) ⟨Nat.le_of_ble_eq_true rfl, Nat.le_of_ble_eq_true rfl⟩) (zR_V (va_recv hK hP (ci := 12) (q0 := 0) rfl rfl) hP hK) rfl rfl hl.1 rfl (lv_room (Nat.le_of_ble_eq_true rfl)) dX12_atLaw_4 ⟨Nat.le_of_ble_eq_true rfl, Nat.le_of_ble_eq_true rfl⟩).run (fun r_1 hw_1 => ?_)
  obtain rfl : r_1 = 0 := hw_1
  refine lv_icmp_ge (tgt := 46) hx hb dX12_atLaw_7 (by decide) (fun c_2 => ?_) (fun c_2 => ?_)
  · skip
    refine lv_iconst (v := (-1)) hx hb dX12_atLaw_46 (by decide) ?_
    refine W.widen (k := 0) (n := 0) (Nat.le_of_ble_eq_true rfl) (Nat.le_of_ble_eq_true rfl) ?_
    exact W.iret (v := (-1)) hx hb hr (fun t ht hW => ⟨(-1), rfl, rfl, ht⟩) (fun q h => nomatch h) dX12_atLaw_47
  · skip
    exact absurd c_2 (by decide)
abbrev cX12_atEquivalence : ByteArray := prog_14_method_29_code
def yX12_atEquivalence : MethodName := ⟨RX12, "atEquivalence", "(I)I"⟩
theorem dX12_atEquivalence_0 : decode cX12_atEquivalence 0 = .ok (.iconst 0, 1) := by decide +kernel
theorem dX12_atEquivalence_1 : decode cX12_atEquivalence 1 = .ok (.istore_n 2, 1) := by decide +kernel
theorem dX12_atEquivalence_2 : decode cX12_atEquivalence 2 = .ok (.iload_n 2, 1) := by decide +kernel
theorem dX12_atEquivalence_3 : decode cX12_atEquivalence 3 = .ok (.aload_n 0, 1) := by decide +kernel
theorem dX12_atEquivalence_4 : decode cX12_atEquivalence 4 = .ok (.getfield 9, 3) := by decide +kernel
theorem dX12_atEquivalence_7 : decode cX12_atEquivalence 7 = .ok (.sipush 3864, 3) := by decide +kernel
theorem dX12_atEquivalence_10 : decode cX12_atEquivalence 10 = .ok (.iaload, 1) := by decide +kernel
theorem dX12_atEquivalence_11 : decode cX12_atEquivalence 11 = .ok (.if_icmp .ge 37, 3) := by decide +kernel
theorem dX12_atEquivalence_48 : decode cX12_atEquivalence 48 = .ok (.iconst (-1), 1) := by decide +kernel
theorem dX12_atEquivalence_49 : decode cX12_atEquivalence 49 = .ok (.ireturn, 1) := by decide +kernel
set_option maxHeartbeats 4000000 in
set_option maxRecDepth 100000 in
theorem k_X12_atEquivalence (l : Launch) (D : va_G) (a : Nat → Nat) (i : Nat → Int32) (cI : ClassId) (k : Int32) : Met l yX12_atEquivalence (.code yX12_atEquivalence cX12_atEquivalence 3 (some .int) :: zT) ({ frames := 0, cells := 0, slots := 0, locals := 0 }) (va_Pc [.ref (a 0), .int k] (zR D [((a 0), .inr (12, zMo a i)), ((a 1), .inl (cI, 6792, .inl zI0))] [(cI, .int)])) (vp_Si (fun r => r = -1)) 0 0 (fun _ => False) := by
  refine Met.ofW (cc := cX12_atEquivalence) (maxL := 3) (ret := (some .int)) (by decide) rfl ?_
  intro p e s m args below meth c s₁ B hml hv
  obtain ⟨rfl, hP, hK⟩ := hv
  have hx := B.exec
  have hb := B.bytes
  have hr := B.returns
  have hts := atoms_spec (ws := (.code yX12_atEquivalence cX12_atEquivalence 3 (some .int) :: zT)) B.pre
  have ht : ∀ w ∈ zT, w.before _ s = true := fun w h => hts w (List.mem_cons_of_mem _ h)
  have hown : s.vm.findClass RX12 = some m.cls := findClass_of_methodNamed B.named
  have hlocks := B.notSynchronized
  have hl := lv_entry ([.ref (a 0), .int k]) (n := 3) (Nat.le_of_ble_eq_true rfl)
  rw [lg_entry_eq]
  generalize (lg_sl ([.ref (a 0), .int k]) ++ List.replicate (3 - (lg_sl ([.ref (a 0), .int k])).length) Slot.unset).toArray = ls at hl ⊢
  have hl : lv_has ls 3 [(0, .ref (a 0)), (1, .int k)] := hl
  skip
  refine lv_iconst (v := 0) hx hb dX12_atEquivalence_0 (by decide) ?_
  refine lv_istore_n (lv' := [(2, .int 0), (0, .ref (a 0)), (1, .int k)]) hx hb dX12_atEquivalence_1 rfl hl (by decide) rfl (fun ls hl => ?_)
  refine lv_iload_n hx hb dX12_atEquivalence_2 rfl (lv_at hl 0 rfl) ?_
  refine lv_aload_n hx hb dX12_atEquivalence_3 rfl (lv_at hl 1 rfl) ?_
  refine va_get (D := D) (ci := 12) (v := .ref (a 1)) (C := RX12) (T := TX12) (N := 25) hx hb ht zinX12 hown hK hP 0 rfl rfl 1 (by decide) (ht _ zw_34) (fun _ h9 => h9) rfl dX12_atEquivalence_4 ?_
  refine lv_sipush (v := 3864) hx hb dX12_atEquivalence_7 (by decide) ?_
  refine va_iald hx hb hK hP 1 0 rfl rfl (vp_in_iff.mpr (by decide)) dX12_atEquivalence_10 ?_
  refine W.eq (g2 := F0 m 11 ls (.int 0 :: .int 0 :: [])) rfl ?_
  refine lv_icmp_ge (tgt := 48) hx hb dX12_atEquivalence_11 (by decide) (fun c_2 => ?_) (fun c_2 => ?_)
  · skip
    refine lv_iconst (v := (-1)) hx hb dX12_atEquivalence_48 (by decide) ?_
    refine W.widen (k := 0) (n := 0) (Nat.le_of_ble_eq_true rfl) (Nat.le_of_ble_eq_true rfl) ?_
    exact W.iret (v := (-1)) hx hb hr (fun t ht hW => ⟨(-1), rfl, rfl, ht⟩) (fun q h => nomatch h) dX12_atEquivalence_49
  · skip
    exact absurd c_2 (by decide)
abbrev cX12_linesOf : ByteArray := prog_14_method_44_code
def yX12_linesOf : MethodName := ⟨RX12, "linesOf", "(I)I"⟩
theorem dX12_linesOf_0 : decode cX12_linesOf 0 = .ok (.aload_n 0, 1) := by decide +kernel
theorem dX12_linesOf_1 : decode cX12_linesOf 1 = .ok (.getfield 9, 3) := by decide +kernel
theorem dX12_linesOf_4 : decode cX12_linesOf 4 = .ok (.aload_n 0, 1) := by decide +kernel
theorem dX12_linesOf_5 : decode cX12_linesOf 5 = .ok (.iload_n 1, 1) := by decide +kernel
theorem zw_43 : Cond.methodLink RX12 188 yX12_atChain ∈ zT := zT_of 1740 (by decide +kernel) (by decide +kernel)
theorem zw_44 : Cond.instanceMethod yX12_atChain ∈ zT := zT_of 1742 (by decide +kernel) (by decide +kernel)
theorem zw_45 : Cond.selects RX12 yX12_atChain yX12_atChain ∈ zT := zT_ofS 64 (by decide +kernel) (by decide +kernel)
theorem zw_46 : Cond.code yX12_atChain cX12_atChain 2 (some .int) ∈ zT := zT_of 1743 (by decide +kernel) (by decide +kernel)
theorem dX12_linesOf_6 : decode cX12_linesOf 6 = .ok (.invokevirtual 188, 3) := by decide +kernel
theorem dX12_linesOf_9 : decode cX12_linesOf 9 = .ok (.iaload, 1) := by decide +kernel
theorem dX12_linesOf_10 : decode cX12_linesOf 10 = .ok (.ireturn, 1) := by decide +kernel
set_option maxHeartbeats 4000000 in
set_option maxRecDepth 100000 in
theorem k_X12_linesOf (l : Launch) (D : va_G) (a : Nat → Nat) (i : Nat → Int32) (cI : ClassId) (k : Int32) (hk : 0 ≤ k.toInt ∧ k.toInt ≤ 3) : Met l yX12_linesOf (.code yX12_linesOf cX12_linesOf 2 (some .int) :: zT) ({ frames := 1, cells := 0, slots := 0, locals := 21 }) (va_Pc [.ref (a 0), .int k] (zR D [((a 0), .inr (12, zMo a i)), ((a 1), .inl (cI, 6792, .inl zI0))] [(cI, .int)])) (vp_Si (fun r => r = 0)) 0 0 (fun _ => False) := by
  refine Met.ofW (cc := cX12_linesOf) (maxL := 2) (ret := (some .int)) (by decide) rfl ?_
  intro p e s m args below meth c s₁ B hml hv
  obtain ⟨rfl, hP, hK⟩ := hv
  have hx := B.exec
  have hb := B.bytes
  have hr := B.returns
  have hts := atoms_spec (ws := (.code yX12_linesOf cX12_linesOf 2 (some .int) :: zT)) B.pre
  have ht : ∀ w ∈ zT, w.before _ s = true := fun w h => hts w (List.mem_cons_of_mem _ h)
  have hown : s.vm.findClass RX12 = some m.cls := findClass_of_methodNamed B.named
  have hlocks := B.notSynchronized
  have hl := lv_entry ([.ref (a 0), .int k]) (n := 2) (Nat.le_of_ble_eq_true rfl)
  rw [lg_entry_eq]
  generalize (lg_sl ([.ref (a 0), .int k]) ++ List.replicate (2 - (lg_sl ([.ref (a 0), .int k])).length) Slot.unset).toArray = ls at hl ⊢
  have hl : lv_has ls 2 [(0, .ref (a 0)), (1, .int k)] := hl
  skip
  refine lv_aload_n hx hb dX12_linesOf_0 rfl (lv_at hl 0 rfl) ?_
  refine va_get (D := D) (ci := 12) (v := .ref (a 1)) (C := RX12) (T := TX12) (N := 25) hx hb ht zinX12 hown hK hP 0 rfl rfl 1 (by decide) (ht _ zw_34) (fun _ h9 => h9) rfl dX12_linesOf_1 ?_
  refine lv_aload_n hx hb dX12_linesOf_4 rfl (lv_at hl 0 rfl) ?_
  refine lv_iload_n hx hb dX12_linesOf_5 rfl (lv_at hl 1 rfl) ?_
  refine vp_callSi (va_runV (As := [.int k]) (rest := [.ref (a 1)]) ⟨hx, hb, hml, hown, ht⟩ (k_X12_atChain l (a 0) k) (cwV 1 ht (zG_V zw_43 zw_44 zw_45 zw_2 zw_46) rfl rfl rfl (by decide +kernel) ⟨Nat.le_of_ble_eq_true rfl, Nat.le_of_ble_eq_true rfl⟩) (zN_V (va_recv hK hP (ci := 12) (q0 := 0) rfl rfl)) rfl rfl hl.1 rfl (lv_room (Nat.le_of_ble_eq_true rfl)) dX12_linesOf_6 ⟨Nat.le_of_ble_eq_true rfl, Nat.le_of_ble_eq_true rfl⟩).run (fun r_1 hw_1 => ?_)
  have hi_1 : vp_in r_1 6792 := by rw [hw_1]; exact zch_in hk.1 hk.2
  refine va_iald hx hb hK hP 1 0 rfl rfl hi_1 dX12_linesOf_9 ?_
  refine W.eq (g2 := F0 m 10 ls (.int 0 :: [])) rfl ?_
  refine W.widen (k := 0) (n := 0) (Nat.le_of_ble_eq_true rfl) (Nat.le_of_ble_eq_true rfl) ?_
  exact W.iret (v := 0) hx hb hr (fun t ht hW => ⟨0, rfl, rfl, ht⟩) (fun q h => nomatch h) dX12_linesOf_10
abbrev cX12_wrongOf : ByteArray := prog_14_method_48_code
def yX12_wrongOf : MethodName := ⟨RX12, "wrongOf", "(II)I"⟩
theorem dX12_wrongOf_0 : decode cX12_wrongOf 0 = .ok (.iconst 1, 1) := by decide +kernel
theorem dX12_wrongOf_1 : decode cX12_wrongOf 1 = .ok (.istore_n 3, 1) := by decide +kernel
theorem dX12_wrongOf_2 : decode cX12_wrongOf 2 = .ok (.iload_n 3, 1) := by decide +kernel
theorem dX12_wrongOf_3 : decode cX12_wrongOf 3 = .ok (.aload_n 0, 1) := by decide +kernel
theorem dX12_wrongOf_4 : decode cX12_wrongOf 4 = .ok (.iload_n 1, 1) := by decide +kernel
theorem zw_47 : Cond.methodLink RX12 202 yX12_linesOf ∈ zT := zT_of 1736 (by decide +kernel) (by decide +kernel)
theorem zw_48 : Cond.instanceMethod yX12_linesOf ∈ zT := zT_of 1738 (by decide +kernel) (by decide +kernel)
theorem zw_49 : Cond.selects RX12 yX12_linesOf yX12_linesOf ∈ zT := zT_ofS 63 (by decide +kernel) (by decide +kernel)
theorem zw_50 : Cond.code yX12_linesOf cX12_linesOf 2 (some .int) ∈ zT := zT_of 1739 (by decide +kernel) (by decide +kernel)
theorem dX12_wrongOf_5 : decode cX12_wrongOf 5 = .ok (.invokevirtual 202, 3) := by decide +kernel
theorem dX12_wrongOf_8 : decode cX12_wrongOf 8 = .ok (.if_icmp .ge 21, 3) := by decide +kernel
theorem dX12_wrongOf_29 : decode cX12_wrongOf 29 = .ok (.iconst (-1), 1) := by decide +kernel
theorem dX12_wrongOf_30 : decode cX12_wrongOf 30 = .ok (.ireturn, 1) := by decide +kernel
set_option maxHeartbeats 4000000 in
set_option maxRecDepth 100000 in
theorem k_X12_wrongOf (l : Launch) (D : va_G) (a : Nat → Nat) (i : Nat → Int32) (cI : ClassId) (k n : Int32) (hk : 0 ≤ k.toInt ∧ k.toInt ≤ 3) : Met l yX12_wrongOf (.code yX12_wrongOf cX12_wrongOf 4 (some .int) :: zT) ({ frames := 2, cells := 0, slots := 0, locals := 42 }) (va_Pc [.ref (a 0), .int k, .int n] (zR D [((a 0), .inr (12, zMo a i)), ((a 1), .inl (cI, 6792, .inl zI0))] [(cI, .int)])) (vp_Si (fun r => r = -1)) 0 0 (fun _ => False) := by
  refine Met.ofW (cc := cX12_wrongOf) (maxL := 4) (ret := (some .int)) (by decide) rfl ?_
  intro p e s m args below meth c s₁ B hml hv
  obtain ⟨rfl, hP, hK⟩ := hv
  have hx := B.exec
  have hb := B.bytes
  have hr := B.returns
  have hts := atoms_spec (ws := (.code yX12_wrongOf cX12_wrongOf 4 (some .int) :: zT)) B.pre
  have ht : ∀ w ∈ zT, w.before _ s = true := fun w h => hts w (List.mem_cons_of_mem _ h)
  have hown : s.vm.findClass RX12 = some m.cls := findClass_of_methodNamed B.named
  have hlocks := B.notSynchronized
  have hl := lv_entry ([.ref (a 0), .int k, .int n]) (n := 4) (Nat.le_of_ble_eq_true rfl)
  rw [lg_entry_eq]
  generalize (lg_sl ([.ref (a 0), .int k, .int n]) ++ List.replicate (4 - (lg_sl ([.ref (a 0), .int k, .int n])).length) Slot.unset).toArray = ls at hl ⊢
  have hl : lv_has ls 4 [(0, .ref (a 0)), (1, .int k), (2, .int n)] := hl
  skip
  refine lv_iconst (v := 1) hx hb dX12_wrongOf_0 (by decide) ?_
  refine lv_istore_n (lv' := [(3, .int 1), (0, .ref (a 0)), (1, .int k), (2, .int n)]) hx hb dX12_wrongOf_1 rfl hl (by decide) rfl (fun ls hl => ?_)
  refine lv_iload_n hx hb dX12_wrongOf_2 rfl (lv_at hl 0 rfl) ?_
  refine lv_aload_n hx hb dX12_wrongOf_3 rfl (lv_at hl 1 rfl) ?_
  refine lv_iload_n hx hb dX12_wrongOf_4 rfl (lv_at hl 2 rfl) ?_
  refine vp_callSi (va_runV (As := [.int k]) (rest := [.int 1]) ⟨hx, hb, hml, hown, ht⟩ (k_X12_linesOf l D a i cI k hk) (cwV 1 ht (zG_V zw_47 zw_48 zw_49 zw_2 zw_50) rfl rfl rfl (by decide +kernel) ⟨Nat.le_of_ble_eq_true rfl, Nat.le_of_ble_eq_true rfl⟩) (zR_V (va_recv hK hP (ci := 12) (q0 := 0) rfl rfl) hP hK) rfl rfl hl.1 rfl (lv_room (Nat.le_of_ble_eq_true rfl)) dX12_wrongOf_5 ⟨Nat.le_of_ble_eq_true rfl, Nat.le_of_ble_eq_true rfl⟩).run (fun r_1 hw_1 => ?_)
  obtain rfl : r_1 = 0 := hw_1
  refine lv_icmp_ge (tgt := 29) hx hb dX12_wrongOf_8 (by decide) (fun c_2 => ?_) (fun c_2 => ?_)
  · skip
    refine lv_iconst (v := (-1)) hx hb dX12_wrongOf_29 (by decide) ?_
    refine W.widen (k := 0) (n := 0) (Nat.le_of_ble_eq_true rfl) (Nat.le_of_ble_eq_true rfl) ?_
    exact W.iret (v := (-1)) hx hb hr (fun t ht hW => ⟨(-1), rfl, rfl, ht⟩) (fun q h => nomatch h) dX12_wrongOf_30
  · skip
    exact absurd c_2 (by decide)
abbrev cX12_relationOf : ByteArray := prog_14_method_49_code
def yX12_relationOf : MethodName := ⟨RX12, "relationOf", "(II)I"⟩
theorem dX12_relationOf_0 : decode cX12_relationOf 0 = .ok (.aload_n 0, 1) := by decide +kernel
theorem dX12_relationOf_1 : decode cX12_relationOf 1 = .ok (.iload_n 1, 1) := by decide +kernel
theorem dX12_relationOf_2 : decode cX12_relationOf 2 = .ok (.invokevirtual 202, 3) := by decide +kernel
theorem dX12_relationOf_5 : decode cX12_relationOf 5 = .ok (.ifCond .eq 13, 3) := by decide +kernel
theorem dX12_relationOf_18 : decode cX12_relationOf 18 = .ok (.iconst (-1), 1) := by decide +kernel
theorem dX12_relationOf_19 : decode cX12_relationOf 19 = .ok (.ireturn, 1) := by decide +kernel
set_option maxHeartbeats 4000000 in
set_option maxRecDepth 100000 in
theorem k_X12_relationOf (l : Launch) (D : va_G) (a : Nat → Nat) (i : Nat → Int32) (cI : ClassId) (k n : Int32) (hk : 0 ≤ k.toInt ∧ k.toInt ≤ 3) : Met l yX12_relationOf (.code yX12_relationOf cX12_relationOf 7 (some .int) :: zT) ({ frames := 2, cells := 0, slots := 0, locals := 42 }) (va_Pc [.ref (a 0), .int k, .int n] (zR D [((a 0), .inr (12, zMo a i)), ((a 1), .inl (cI, 6792, .inl zI0))] [(cI, .int)])) (vp_Si (fun r => r = -1)) 0 0 (fun _ => False) := by
  refine Met.ofW (cc := cX12_relationOf) (maxL := 7) (ret := (some .int)) (by decide) rfl ?_
  intro p e s m args below meth c s₁ B hml hv
  obtain ⟨rfl, hP, hK⟩ := hv
  have hx := B.exec
  have hb := B.bytes
  have hr := B.returns
  have hts := atoms_spec (ws := (.code yX12_relationOf cX12_relationOf 7 (some .int) :: zT)) B.pre
  have ht : ∀ w ∈ zT, w.before _ s = true := fun w h => hts w (List.mem_cons_of_mem _ h)
  have hown : s.vm.findClass RX12 = some m.cls := findClass_of_methodNamed B.named
  have hlocks := B.notSynchronized
  have hl := lv_entry ([.ref (a 0), .int k, .int n]) (n := 7) (Nat.le_of_ble_eq_true rfl)
  rw [lg_entry_eq]
  generalize (lg_sl ([.ref (a 0), .int k, .int n]) ++ List.replicate (7 - (lg_sl ([.ref (a 0), .int k, .int n])).length) Slot.unset).toArray = ls at hl ⊢
  have hl : lv_has ls 7 [(0, .ref (a 0)), (1, .int k), (2, .int n)] := hl
  skip
  refine lv_aload_n hx hb dX12_relationOf_0 rfl (lv_at hl 0 rfl) ?_
  refine lv_iload_n hx hb dX12_relationOf_1 rfl (lv_at hl 1 rfl) ?_
  refine vp_callSi (va_runV (As := [.int k]) (rest := []) ⟨hx, hb, hml, hown, ht⟩ (k_X12_linesOf l D a i cI k hk) (cwV 1 ht (zG_V zw_47 zw_48 zw_49 zw_2 zw_50) rfl rfl rfl (by decide +kernel) ⟨Nat.le_of_ble_eq_true rfl, Nat.le_of_ble_eq_true rfl⟩) (zR_V (va_recv hK hP (ci := 12) (q0 := 0) rfl rfl) hP hK) rfl rfl hl.1 rfl (lv_room (Nat.le_of_ble_eq_true rfl)) dX12_relationOf_2 ⟨Nat.le_of_ble_eq_true rfl, Nat.le_of_ble_eq_true rfl⟩).run (fun r_1 hw_1 => ?_)
  obtain rfl : r_1 = 0 := hw_1
  refine lv_if_eq (tgt := 18) hx hb dX12_relationOf_5 (by decide) (fun c_2 => ?_) (fun c_2 => ?_)
  · skip
    refine lv_iconst (v := (-1)) hx hb dX12_relationOf_18 (by decide) ?_
    refine W.widen (k := 0) (n := 0) (Nat.le_of_ble_eq_true rfl) (Nat.le_of_ble_eq_true rfl) ?_
    exact W.iret (v := (-1)) hx hb hr (fun t ht hW => ⟨(-1), rfl, rfl, ht⟩) (fun q h => nomatch h) dX12_relationOf_19
  · skip
    exact absurd c_2 (by decide)
abbrev cX12_allOpen : ByteArray := prog_14_method_42_code
def yX12_allOpen : MethodName := ⟨RX12, "allOpen", "()I"⟩
theorem dX12_allOpen_0 : decode cX12_allOpen 0 = .ok (.iconst 1, 1) := by decide +kernel
theorem dX12_allOpen_1 : decode cX12_allOpen 1 = .ok (.aload_n 0, 1) := by decide +kernel
theorem zw_51 : Cond.methodLink RX12 135 yX12_openNow ∈ zT := zT_of 1709 (by decide +kernel) (by decide +kernel)
theorem zw_52 : Cond.instanceMethod yX12_openNow ∈ zT := zT_of 1711 (by decide +kernel) (by decide +kernel)
theorem zw_53 : Cond.selects RX12 yX12_openNow yX12_openNow ∈ zT := zT_ofS 59 (by decide +kernel) (by decide +kernel)
theorem zw_54 : Cond.code yX12_openNow cX12_openNow 1 (some .int) ∈ zT := zT_of 1712 (by decide +kernel) (by decide +kernel)
theorem dX12_allOpen_2 : decode cX12_allOpen 2 = .ok (.invokevirtual 135, 3) := by decide +kernel
theorem dX12_allOpen_5 : decode cX12_allOpen 5 = .ok (.ishl, 1) := by decide +kernel
theorem dX12_allOpen_6 : decode cX12_allOpen 6 = .ok (.iconst 1, 1) := by decide +kernel
theorem dX12_allOpen_7 : decode cX12_allOpen 7 = .ok (.isub, 1) := by decide +kernel
theorem dX12_allOpen_8 : decode cX12_allOpen 8 = .ok (.ireturn, 1) := by decide +kernel
set_option maxHeartbeats 4000000 in
set_option maxRecDepth 100000 in
theorem k_X12_allOpen (l : Launch) (D : va_G) (a : Nat → Nat) (i : Nat → Int32) (cI : ClassId) : Met l yX12_allOpen (.code yX12_allOpen cX12_allOpen 1 (some .int) :: zT) ({ frames := 1, cells := 0, slots := 0, locals := 20 }) (va_Pc [.ref (a 0)] (zR D [((a 0), .inr (12, zMo a i)), ((a 1), .inl (cI, 6792, .inl zI0))] [(cI, .int)])) (vp_Si (fun r => r = 0)) 0 0 (fun _ => False) := by
  refine Met.ofW (cc := cX12_allOpen) (maxL := 1) (ret := (some .int)) (by decide) rfl ?_
  intro p e s m args below meth c s₁ B hml hv
  obtain ⟨rfl, hP, hK⟩ := hv
  have hx := B.exec
  have hb := B.bytes
  have hr := B.returns
  have hts := atoms_spec (ws := (.code yX12_allOpen cX12_allOpen 1 (some .int) :: zT)) B.pre
  have ht : ∀ w ∈ zT, w.before _ s = true := fun w h => hts w (List.mem_cons_of_mem _ h)
  have hown : s.vm.findClass RX12 = some m.cls := findClass_of_methodNamed B.named
  have hlocks := B.notSynchronized
  have hl := lv_entry ([.ref (a 0)]) (n := 1) (Nat.le_of_ble_eq_true rfl)
  rw [lg_entry_eq]
  generalize (lg_sl ([.ref (a 0)]) ++ List.replicate (1 - (lg_sl ([.ref (a 0)])).length) Slot.unset).toArray = ls at hl ⊢
  have hl : lv_has ls 1 [(0, .ref (a 0))] := hl
  skip
  refine lv_iconst (v := 1) hx hb dX12_allOpen_0 (by decide) ?_
  refine lv_aload_n hx hb dX12_allOpen_1 rfl (lv_at hl 0 rfl) ?_
  refine vp_callSi (va_runV (As := []) (rest := [.int 1]) ⟨hx, hb, hml, hown, ht⟩ (k_X12_openNow l D a i cI) (cwV 0 ht (zG_V zw_51 zw_52 zw_53 zw_2 zw_54) rfl rfl rfl (by decide +kernel) ⟨Nat.le_of_ble_eq_true rfl, Nat.le_of_ble_eq_true rfl⟩) (zR_V (va_recv hK hP (ci := 12) (q0 := 0) rfl rfl) hP hK) rfl rfl hl.1 rfl (lv_room (Nat.le_of_ble_eq_true rfl)) dX12_allOpen_2 ⟨Nat.le_of_ble_eq_true rfl, Nat.le_of_ble_eq_true rfl⟩).run (fun r_1 hw_1 => ?_)
  obtain rfl : r_1 = 0 := hw_1
  refine lv_ishl hx hb dX12_allOpen_5 ?_
  refine lv_topi (fun x_2 e_2 => ?_)
  obtain rfl : x_2 = 1 := e_2.trans (by decide)
  refine lv_iconst (v := 1) hx hb dX12_allOpen_6 (by decide) ?_
  refine lv_isub hx hb dX12_allOpen_7 ?_
  refine lv_topi (fun x_3 e_3 => ?_)
  obtain rfl : x_3 = 0 := e_3.trans (by decide)
  refine W.widen (k := 0) (n := 0) (Nat.le_of_ble_eq_true rfl) (Nat.le_of_ble_eq_true rfl) ?_
  exact W.iret (v := 0) hx hb hr (fun t ht hW => ⟨0, rfl, rfl, ht⟩) (fun q h => nomatch h) dX12_allOpen_8
abbrev cX12_canProve : ByteArray := prog_14_method_67_code
def yX12_canProve : MethodName := ⟨RX12, "canProve", "(III)Z"⟩
theorem dX12_canProve_0 : decode cX12_canProve 0 = .ok (.aload_n 0, 1) := by decide +kernel
theorem dX12_canProve_1 : decode cX12_canProve 1 = .ok (.iload_n 2, 1) := by decide +kernel
theorem dX12_canProve_2 : decode cX12_canProve 2 = .ok (.iload_n 3, 1) := by decide +kernel
theorem zw_55 : Cond.methodLink RX12 258 yX12_relationOf ∈ zT := zT_of 1732 (by decide +kernel) (by decide +kernel)
theorem zw_56 : Cond.instanceMethod yX12_relationOf ∈ zT := zT_of 1734 (by decide +kernel) (by decide +kernel)
theorem zw_57 : Cond.selects RX12 yX12_relationOf yX12_relationOf ∈ zT := zT_ofS 62 (by decide +kernel) (by decide +kernel)
theorem zw_58 : Cond.code yX12_relationOf cX12_relationOf 7 (some .int) ∈ zT := zT_of 1735 (by decide +kernel) (by decide +kernel)
theorem dX12_canProve_3 : decode cX12_canProve 3 = .ok (.invokevirtual 258, 3) := by decide +kernel
theorem dX12_canProve_6 : decode cX12_canProve 6 = .ok (.iconst (-1), 1) := by decide +kernel
theorem dX12_canProve_7 : decode cX12_canProve 7 = .ok (.if_icmp .eq 24, 3) := by decide +kernel
theorem dX12_canProve_31 : decode cX12_canProve 31 = .ok (.iconst 0, 1) := by decide +kernel
theorem dX12_canProve_32 : decode cX12_canProve 32 = .ok (.ireturn, 1) := by decide +kernel
set_option maxHeartbeats 4000000 in
set_option maxRecDepth 100000 in
theorem k_X12_canProve (l : Launch) (D : va_G) (a : Nat → Nat) (i : Nat → Int32) (cI : ClassId) (nm k n : Int32) (hk : 0 ≤ k.toInt ∧ k.toInt ≤ 3) : Met l yX12_canProve (.code yX12_canProve cX12_canProve 4 (some .boolean) :: zT) ({ frames := 3, cells := 0, slots := 0, locals := 68 }) (va_Pc [.ref (a 0), .int nm, .int k, .int n] (zR D [((a 0), .inr (12, zMo a i)), ((a 1), .inl (cI, 6792, .inl zI0))] [(cI, .int)])) (vp_Si (fun r => r = 0)) 0 0 (fun _ => False) := by
  refine Met.ofW (cc := cX12_canProve) (maxL := 4) (ret := (some .boolean)) (by decide) rfl ?_
  intro p e s m args below meth c s₁ B hml hv
  obtain ⟨rfl, hP, hK⟩ := hv
  have hx := B.exec
  have hb := B.bytes
  have hr := B.returns
  have hts := atoms_spec (ws := (.code yX12_canProve cX12_canProve 4 (some .boolean) :: zT)) B.pre
  have ht : ∀ w ∈ zT, w.before _ s = true := fun w h => hts w (List.mem_cons_of_mem _ h)
  have hown : s.vm.findClass RX12 = some m.cls := findClass_of_methodNamed B.named
  have hlocks := B.notSynchronized
  have hl := lv_entry ([.ref (a 0), .int nm, .int k, .int n]) (n := 4) (Nat.le_of_ble_eq_true rfl)
  rw [lg_entry_eq]
  generalize (lg_sl ([.ref (a 0), .int nm, .int k, .int n]) ++ List.replicate (4 - (lg_sl ([.ref (a 0), .int nm, .int k, .int n])).length) Slot.unset).toArray = ls at hl ⊢
  have hl : lv_has ls 4 [(0, .ref (a 0)), (1, .int nm), (2, .int k), (3, .int n)] := hl
  skip
  refine lv_aload_n hx hb dX12_canProve_0 rfl (lv_at hl 0 rfl) ?_
  refine lv_iload_n hx hb dX12_canProve_1 rfl (lv_at hl 2 rfl) ?_
  refine lv_iload_n hx hb dX12_canProve_2 rfl (lv_at hl 3 rfl) ?_
  refine vp_callSi (va_runV (As := [.int k, .int n]) (rest := []) ⟨hx, hb, hml, hown, ht⟩ (k_X12_relationOf l D a i cI k n hk) (cwV 2 ht (zG_V zw_55 zw_56 zw_57 zw_2 zw_58) rfl rfl rfl (by decide +kernel) ⟨Nat.le_of_ble_eq_true rfl, Nat.le_of_ble_eq_true rfl⟩) (zR_V (va_recv hK hP (ci := 12) (q0 := 0) rfl rfl) hP hK) rfl rfl hl.1 rfl (lv_room (Nat.le_of_ble_eq_true rfl)) dX12_canProve_3 ⟨Nat.le_of_ble_eq_true rfl, Nat.le_of_ble_eq_true rfl⟩).run (fun r_1 hw_1 => ?_)
  obtain rfl : r_1 = (-1) := hw_1
  refine lv_iconst (v := (-1)) hx hb dX12_canProve_6 (by decide) ?_
  refine lv_icmp_eq (tgt := 31) hx hb dX12_canProve_7 (by decide) (fun c_2 => ?_) (fun c_2 => ?_)
  · skip
    refine lv_iconst (v := 0) hx hb dX12_canProve_31 (by decide) ?_
    refine W.widen (k := 0) (n := 0) (Nat.le_of_ble_eq_true rfl) (Nat.le_of_ble_eq_true rfl) ?_
    exact W.zret (v := 0) hx hb hr rfl (fun t ht hW => ⟨0, rfl, rfl, ht⟩) (fun q h => nomatch h) dX12_canProve_32
  · skip
    exact absurd c_2 (by decide)
