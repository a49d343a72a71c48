abbrev cX12_in : ByteArray := prog_14_method_5_code
def yX12_in : MethodName := ⟨RX12, "in", "(III)Z"⟩
theorem dX12_in_0 : decode cX12_in 0 = .ok (.iload_n 0, 1) := by decide +kernel
theorem dX12_in_1 : decode cX12_in 1 = .ok (.iload_n 1, 1) := by decide +kernel
theorem dX12_in_2 : decode cX12_in 2 = .ok (.if_icmp .lt 12, 3) := by decide +kernel
theorem dX12_in_14 : decode cX12_in 14 = .ok (.iconst 0, 1) := by decide +kernel
theorem dX12_in_15 : decode cX12_in 15 = .ok (.ireturn, 1) := by decide +kernel
theorem dX12_in_5 : decode cX12_in 5 = .ok (.iload_n 0, 1) := by decide +kernel
theorem dX12_in_6 : decode cX12_in 6 = .ok (.iload_n 2, 1) := by decide +kernel
theorem dX12_in_7 : decode cX12_in 7 = .ok (.if_icmp .gt 7, 3) := by decide +kernel
theorem dX12_in_10 : decode cX12_in 10 = .ok (.iconst 1, 1) := by decide +kernel
theorem dX12_in_11 : decode cX12_in 11 = .ok (.goto 4, 3) := by decide +kernel
set_option maxHeartbeats 4000000 in
set_option maxRecDepth 100000 in
/-- whether a number lies between two others -/
theorem k_X12_in (l : Launch) (v lo hi : Int32) : Met l yX12_in (.code yX12_in cX12_in 3 (some .boolean) :: zT) ({ frames := 0, cells := 0, slots := 0, locals := 0 }) (va_Pc [.int v, .int lo, .int hi] (fun _ => True)) (vp_Si (fun r => (r = 1 ∧ lo.toInt ≤ v.toInt ∧ v.toInt ≤ hi.toInt) ∨ (r = 0 ∧ ¬ (lo.toInt ≤ v.toInt ∧ v.toInt ≤ hi.toInt)))) 0 0 (fun _ => False) := by
  refine Met.ofW (cc := cX12_in) (maxL := 3) (ret := (some .boolean)) (by decide) rfl ?_
  intro p e s m args below meth c s₁ B hml hv
  obtain ⟨rfl, -⟩ := hv
  have hx := B.exec
  have hb := B.bytes
  have hr := B.returns
  have hts := atoms_spec (ws := (.code yX12_in cX12_in 3 (some .boolean) :: zT)) B.pre
  have ht : ∀ w ∈ zT, w.before _ s = true := fun w h => hts w (List.mem_cons_of_mem _ h)
  have hown : s.vm.findClass RX12 = some m.cls := findClass_of_methodNamed B.named
  have hlocks := B.notSynchronized
  have hl := lv_entry ([.int v, .int lo, .int hi]) (n := 3) (Nat.le_of_ble_eq_true rfl)
  rw [lg_entry_eq]
  generalize (lg_sl ([.int v, .int lo, .int hi]) ++ List.replicate (3 - (lg_sl ([.int v, .int lo, .int hi])).length) Slot.unset).toArray = ls at hl ⊢
  have hl : lv_has ls 3 [(0, .int v), (1, .int lo), (2, .int hi)] := hl
  skip
  refine lv_iload_n hx hb dX12_in_0 rfl (lv_at hl 0 rfl) ?_
  refine lv_iload_n hx hb dX12_in_1 rfl (lv_at hl 1 rfl) ?_
  refine lv_icmp_lt (tgt := 14) hx hb dX12_in_2 (by decide) (fun c_1 => ?_) (fun c_1 => ?_)
  · skip
    simp only [fa_lt, fa_le, fa_eq, Int32.reduceToInt] at c_1
    refine lv_iconst (v := 0) hx hb dX12_in_14 (by decide) ?_
    refine W.widen (k := 0) (n := 0) (Nat.le_of_ble_eq_true rfl) (Nat.le_of_ble_eq_true rfl) ?_
    exact W.zret (v := 0) hx hb hr rfl (fun t ht hW => ⟨0, rfl, (.inr ⟨rfl, by omega⟩), ht⟩) (fun q h => nomatch h) dX12_in_15
  · skip
    simp only [fa_lt, fa_le, fa_eq, Int32.reduceToInt] at c_1
    refine lv_iload_n hx hb dX12_in_5 rfl (lv_at hl 0 rfl) ?_
    refine lv_iload_n hx hb dX12_in_6 rfl (lv_at hl 2 rfl) ?_
    refine lv_icmp_gt (tgt := 14) hx hb dX12_in_7 (by decide) (fun c_2 => ?_) (fun c_2 => ?_)
    · skip
      simp only [fa_lt, fa_le, fa_eq, Int32.reduceToInt] at c_2
      refine lv_iconst (v := 0) hx hb dX12_in_14 (by decide) ?_
      refine W.widen (k := 0) (n := 0) (Nat.le_of_ble_eq_true rfl) (Nat.le_of_ble_eq_true rfl) ?_
      exact W.zret (v := 0) hx hb hr rfl (fun t ht hW => ⟨0, rfl, (.inr ⟨rfl, by omega⟩), ht⟩) (fun q h => nomatch h) dX12_in_15
    · skip
      simp only [fa_lt, fa_le, fa_eq, Int32.reduceToInt] at c_2
      refine lv_iconst (v := 1) hx hb dX12_in_10 (by decide) ?_
      refine lv_goto (tgt := 15) hx hb dX12_in_11 (by decide) ?_
      refine W.widen (k := 0) (n := 0) (Nat.le_of_ble_eq_true rfl) (Nat.le_of_ble_eq_true rfl) ?_
      exact W.zret (v := 1) hx hb hr rfl (fun t ht hW => ⟨1, rfl, (.inl ⟨rfl, by omega⟩), ht⟩) (fun q h => nomatch h) dX12_in_15
abbrev cX12_isRegister : ByteArray := prog_14_method_6_code
def yX12_isRegister : MethodName := ⟨RX12, "isRegister", "(I)Z"⟩
theorem dX12_isRegister_0 : decode cX12_isRegister 0 = .ok (.iload_n 0, 1) := by decide +kernel
theorem dX12_isRegister_1 : decode cX12_isRegister 1 = .ok (.iconst 0, 1) := by decide +kernel
theorem dX12_isRegister_2 : decode cX12_isRegister 2 = .ok (.bipush 9, 2) := by decide +kernel
theorem zw_0 : Cond.methodLink RX12 60 yX12_in ∈ zT := zT_of 1572 (by decide +kernel) (by decide +kernel)
theorem zw_1 : Cond.static yX12_in ∈ zT := zT_of 1573 (by decide +kernel) (by decide +kernel)
theorem zw_2 : Cond.initialized RX12 ∈ zT := zT_of 10 (by decide +kernel) (by decide +kernel)
theorem zw_3 : Cond.code yX12_in cX12_in 3 (some .boolean) ∈ zT := zT_of 1574 (by decide +kernel) (by decide +kernel)
theorem dX12_isRegister_4 : decode cX12_isRegister 4 = .ok (.invokestatic 60, 3) := by decide +kernel
theorem dX12_isRegister_7 : decode cX12_isRegister 7 = .ok (.ireturn, 1) := by decide +kernel
set_option maxHeartbeats 4000000 in
set_option maxRecDepth 100000 in
theorem k_X12_isRegister (l : Launch) (k : Int32) : Met l yX12_isRegister (.code yX12_isRegister cX12_isRegister 1 (some .boolean) :: zT) ({ frames := 1, cells := 0, slots := 0, locals := 22 }) (va_Pc [.int k] (fun _ => True)) (vp_Si (fun r => (r = 1 ∧ 0 ≤ k.toInt ∧ k.toInt ≤ 9) ∨ (r = 0 ∧ ¬ (0 ≤ k.toInt ∧ k.toInt ≤ 9)))) 0 0 (fun _ => False) := by
  refine Met.ofW (cc := cX12_isRegister) (maxL := 1) (ret := (some .boolean)) (by decide) rfl ?_
  intro p e s m args below meth c s₁ B hml hv
  obtain ⟨rfl, -⟩ := hv
  have hx := B.exec
  have hb := B.bytes
  have hr := B.returns
  have hts := atoms_spec (ws := (.code yX12_isRegister cX12_isRegister 1 (some .boolean) :: zT)) B.pre
  have ht : ∀ w ∈ zT, w.before _ s = true := fun w h => hts w (List.mem_cons_of_mem _ h)
  have hown : s.vm.findClass RX12 = some m.cls := findClass_of_methodNamed B.named
  have hlocks := B.notSynchronized
  have hl := lv_entry ([.int k]) (n := 1) (Nat.le_of_ble_eq_true rfl)
  rw [lg_entry_eq]
  generalize (lg_sl ([.int k]) ++ List.replicate (1 - (lg_sl ([.int k])).length) Slot.unset).toArray = ls at hl ⊢
  have hl : lv_has ls 1 [(0, .int k)] := hl
  skip
  refine lv_iload_n hx hb dX12_isRegister_0 rfl (lv_at hl 0 rfl) ?_
  refine lv_iconst (v := 0) hx hb dX12_isRegister_1 (by decide) ?_
  refine lv_bipush (v := 9) hx hb dX12_isRegister_2 (by decide) ?_
  refine vp_callSi (va_runS (As := [.int k, .int 0, .int 9]) (rest := []) ⟨hx, hb, hml, hown, ht⟩ (k_X12_in l k 0 9) (va_cwS 3 ht (zG_S zw_0 zw_1 zw_2 zw_3) rfl rfl rfl (by decide +kernel) ⟨Nat.le_of_ble_eq_true rfl, Nat.le_of_ble_eq_true rfl⟩) zN_S rfl rfl hl.1 rfl (lv_room (Nat.le_of_ble_eq_true rfl)) dX12_isRegister_4 ⟨Nat.le_of_ble_eq_true rfl, Nat.le_of_ble_eq_true rfl⟩).run (fun r_1 hw_1 => ?_)
  rcases hw_1 with ⟨rfl, h_1⟩ | ⟨rfl, h_1⟩
  · skip
    simp only [Int32.reduceToInt] at h_1
    refine W.widen (k := 0) (n := 0) (Nat.le_of_ble_eq_true rfl) (Nat.le_of_ble_eq_true rfl) ?_
    exact W.zret (v := 1) hx hb hr rfl (fun t ht hW => ⟨1, rfl, (.inl ⟨rfl, by omega⟩), ht⟩) (fun q h => nomatch h) dX12_isRegister_7
  · skip
    simp only [Int32.reduceToInt] at h_1
    refine W.widen (k := 0) (n := 0) (Nat.le_of_ble_eq_true rfl) (Nat.le_of_ble_eq_true rfl) ?_
    exact W.zret (v := 0) hx hb hr rfl (fun t ht hW => ⟨0, rfl, (.inr ⟨rfl, by omega⟩), ht⟩) (fun q h => nomatch h) dX12_isRegister_7
abbrev cX12_isChain : ByteArray := prog_14_method_7_code
def yX12_isChain : MethodName := ⟨RX12, "isChain", "(I)Z"⟩
theorem dX12_isChain_0 : decode cX12_isChain 0 = .ok (.iload_n 0, 1) := by decide +kernel
theorem dX12_isChain_1 : decode cX12_isChain 1 = .ok (.iconst 0, 1) := by decide +kernel
theorem dX12_isChain_2 : decode cX12_isChain 2 = .ok (.iconst 3, 1) := by decide +kernel
theorem dX12_isChain_3 : decode cX12_isChain 3 = .ok (.invokestatic 60, 3) := by decide +kernel
theorem dX12_isChain_6 : decode cX12_isChain 6 = .ok (.ireturn, 1) := by decide +kernel
set_option maxHeartbeats 4000000 in
set_option maxRecDepth 100000 in
theorem k_X12_isChain (l : Launch) (k : Int32) : Met l yX12_isChain (.code yX12_isChain cX12_isChain 1 (some .boolean) :: zT) ({ frames := 1, cells := 0, slots := 0, locals := 22 }) (va_Pc [.int k] (fun _ => True)) (vp_Si (fun r => (r = 1 ∧ 0 ≤ k.toInt ∧ k.toInt ≤ 3) ∨ (r = 0 ∧ ¬ (0 ≤ k.toInt ∧ k.toInt ≤ 3)))) 0 0 (fun _ => False) := by
  refine Met.ofW (cc := cX12_isChain) (maxL := 1) (ret := (some .boolean)) (by decide) rfl ?_
  intro p e s m args below meth c s₁ B hml hv
  obtain ⟨rfl, -⟩ := hv
  have hx := B.exec
  have hb := B.bytes
  have hr := B.returns
  have hts := atoms_spec (ws := (.code yX12_isChain cX12_isChain 1 (some .boolean) :: zT)) B.pre
  have ht : ∀ w ∈ zT, w.before _ s = true := fun w h => hts w (List.mem_cons_of_mem _ h)
  have hown : s.vm.findClass RX12 = some m.cls := findClass_of_methodNamed B.named
  have hlocks := B.notSynchronized
  have hl := lv_entry ([.int k]) (n := 1) (Nat.le_of_ble_eq_true rfl)
  rw [lg_entry_eq]
  generalize (lg_sl ([.int k]) ++ List.replicate (1 - (lg_sl ([.int k])).length) Slot.unset).toArray = ls at hl ⊢
  have hl : lv_has ls 1 [(0, .int k)] := hl
  skip
  refine lv_iload_n hx hb dX12_isChain_0 rfl (lv_at hl 0 rfl) ?_
  refine lv_iconst (v := 0) hx hb dX12_isChain_1 (by decide) ?_
  refine lv_iconst (v := 3) hx hb dX12_isChain_2 (by decide) ?_
  refine vp_callSi (va_runS (As := [.int k, .int 0, .int 3]) (rest := []) ⟨hx, hb, hml, hown, ht⟩ (k_X12_in l k 0 3) (va_cwS 3 ht (zG_S zw_0 zw_1 zw_2 zw_3) rfl rfl rfl (by decide +kernel) ⟨Nat.le_of_ble_eq_true rfl, Nat.le_of_ble_eq_true rfl⟩) zN_S rfl rfl hl.1 rfl (lv_room (Nat.le_of_ble_eq_true rfl)) dX12_isChain_3 ⟨Nat.le_of_ble_eq_true rfl, Nat.le_of_ble_eq_true rfl⟩).run (fun r_1 hw_1 => ?_)
  rcases hw_1 with ⟨rfl, h_1⟩ | ⟨rfl, h_1⟩
  · skip
    simp only [Int32.reduceToInt] at h_1
    refine W.widen (k := 0) (n := 0) (Nat.le_of_ble_eq_true rfl) (Nat.le_of_ble_eq_true rfl) ?_
    exact W.zret (v := 1) hx hb hr rfl (fun t ht hW => ⟨1, rfl, (.inl ⟨rfl, by omega⟩), ht⟩) (fun q h => nomatch h) dX12_isChain_6
  · skip
    simp only [Int32.reduceToInt] at h_1
    refine W.widen (k := 0) (n := 0) (Nat.le_of_ble_eq_true rfl) (Nat.le_of_ble_eq_true rfl) ?_
    exact W.zret (v := 0) hx hb hr rfl (fun t ht hW => ⟨0, rfl, (.inr ⟨rfl, by omega⟩), ht⟩) (fun q h => nomatch h) dX12_isChain_6
abbrev cX12_isName : ByteArray := prog_14_method_8_code
def yX12_isName : MethodName := ⟨RX12, "isName", "(I)Z"⟩
theorem dX12_isName_0 : decode cX12_isName 0 = .ok (.iload_n 0, 1) := by decide +kernel
theorem dX12_isName_1 : decode cX12_isName 1 = .ok (.iconst 0, 1) := by decide +kernel
theorem dX12_isName_2 : decode cX12_isName 2 = .ok (.bipush 99, 2) := by decide +kernel
theorem dX12_isName_4 : decode cX12_isName 4 = .ok (.invokestatic 60, 3) := by decide +kernel
theorem dX12_isName_7 : decode cX12_isName 7 = .ok (.ireturn, 1) := by decide +kernel
set_option maxHeartbeats 4000000 in
set_option maxRecDepth 100000 in
theorem k_X12_isName (l : Launch) (k : Int32) : Met l yX12_isName (.code yX12_isName cX12_isName 1 (some .boolean) :: zT) ({ frames := 1, cells := 0, slots := 0, locals := 22 }) (va_Pc [.int k] (fun _ => True)) (vp_Si (fun r => (r = 1 ∧ 0 ≤ k.toInt ∧ k.toInt ≤ 99) ∨ (r = 0 ∧ ¬ (0 ≤ k.toInt ∧ k.toInt ≤ 99)))) 0 0 (fun _ => False) := by
  refine Met.ofW (cc := cX12_isName) (maxL := 1) (ret := (some .boolean)) (by decide) rfl ?_
  intro p e s m args below meth c s₁ B hml hv
  obtain ⟨rfl, -⟩ := hv
  have hx := B.exec
  have hb := B.bytes
  have hr := B.returns
  have hts := atoms_spec (ws := (.code yX12_isName cX12_isName 1 (some .boolean) :: zT)) B.pre
  have ht : ∀ w ∈ zT, w.before _ s = true := fun w h => hts w (List.mem_cons_of_mem _ h)
  have hown : s.vm.findClass RX12 = some m.cls := findClass_of_methodNamed B.named
  have hlocks := B.notSynchronized
  have hl := lv_entry ([.int k]) (n := 1) (Nat.le_of_ble_eq_true rfl)
  rw [lg_entry_eq]
  generalize (lg_sl ([.int k]) ++ List.replicate (1 - (lg_sl ([.int k])).length) Slot.unset).toArray = ls at hl ⊢
  have hl : lv_has ls 1 [(0, .int k)] := hl
  skip
  refine lv_iload_n hx hb dX12_isName_0 rfl (lv_at hl 0 rfl) ?_
  refine lv_iconst (v := 0) hx hb dX12_isName_1 (by decide) ?_
  refine lv_bipush (v := 99) hx hb dX12_isName_2 (by decide) ?_
  refine vp_callSi (va_runS (As := [.int k, .int 0, .int 99]) (rest := []) ⟨hx, hb, hml, hown, ht⟩ (k_X12_in l k 0 99) (va_cwS 3 ht (zG_S zw_0 zw_1 zw_2 zw_3) rfl rfl rfl (by decide +kernel) ⟨Nat.le_of_ble_eq_true rfl, Nat.le_of_ble_eq_true rfl⟩) zN_S rfl rfl hl.1 rfl (lv_room (Nat.le_of_ble_eq_true rfl)) dX12_isName_4 ⟨Nat.le_of_ble_eq_true rfl, Nat.le_of_ble_eq_true rfl⟩).run (fun r_1 hw_1 => ?_)
  rcases hw_1 with ⟨rfl, h_1⟩ | ⟨rfl, h_1⟩
  · skip
    simp only [Int32.reduceToInt] at h_1
    refine W.widen (k := 0) (n := 0) (Nat.le_of_ble_eq_true rfl) (Nat.le_of_ble_eq_true rfl) ?_
    exact W.zret (v := 1) hx hb hr rfl (fun t ht hW => ⟨1, rfl, (.inl ⟨rfl, by omega⟩), ht⟩) (fun q h => nomatch h) dX12_isName_7
  · skip
    simp only [Int32.reduceToInt] at h_1
    refine W.widen (k := 0) (n := 0) (Nat.le_of_ble_eq_true rfl) (Nat.le_of_ble_eq_true rfl) ?_
    exact W.zret (v := 0) hx hb hr rfl (fun t ht hW => ⟨0, rfl, (.inr ⟨rfl, by omega⟩), ht⟩) (fun q h => nomatch h) dX12_isName_7
