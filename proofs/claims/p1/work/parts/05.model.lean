abbrev cX12_no : ByteArray := prog_14_method_3_code
def yX12_no : MethodName := ⟨RX12, "no", "(ZI)Z"⟩
theorem dX12_no_0 : decode cX12_no 0 = .ok (.iload_n 1, 1) := by decide +kernel
theorem dX12_no_1 : decode cX12_no 1 = .ok (.ifCond .ne 8, 3) := by decide +kernel
theorem dX12_no_4 : decode cX12_no 4 = .ok (.aload_n 0, 1) := by decide +kernel
theorem dX12_no_5 : decode cX12_no 5 = .ok (.iload_n 2, 1) := by decide +kernel
theorem zw_4 : Cond.lays RX12 RX12 "thrown" "I" ∈ zT := zT_of 1513 (by decide +kernel) (by decide +kernel)
theorem zw_5 : Cond.laysFinal RX12 RX12 "s" "[I" ∈ zT := zT_of 1515 (by decide +kernel) (by decide +kernel)
theorem zw_6 : Cond.laysFinal RX12 RX12 "ahead" "[[I" ∈ zT := zT_of 1517 (by decide +kernel) (by decide +kernel)
theorem zw_7 : Cond.laysFinal RX12 RX12 "images" "[[I" ∈ zT := zT_of 1519 (by decide +kernel) (by decide +kernel)
theorem zw_8 : Cond.laysFinal RX12 RX12 "isKept" "[Z" ∈ zT := zT_of 1521 (by decide +kernel) (by decide +kernel)
theorem zw_9 : Cond.lays RX12 RX12 "changes" "I" ∈ zT := zT_of 1523 (by decide +kernel) (by decide +kernel)
theorem zw_10 : Cond.laysFinal RX12 RX12 "text" "[I" ∈ zT := zT_of 1525 (by decide +kernel) (by decide +kernel)
theorem zw_11 : Cond.lays RX12 RX12 "textLength" "I" ∈ zT := zT_of 1527 (by decide +kernel) (by decide +kernel)
theorem zw_12 : Cond.lays RX12 RX12 "at" "I" ∈ zT := zT_of 1529 (by decide +kernel) (by decide +kernel)
theorem zw_13 : Cond.lays RX12 RX12 "error" "I" ∈ zT := zT_of 1531 (by decide +kernel) (by decide +kernel)
theorem zw_14 : Cond.laysFinal RX12 RX12 "readTerm" "[I" ∈ zT := zT_of 1533 (by decide +kernel) (by decide +kernel)
theorem zw_15 : Cond.laysFinal RX12 RX12 "output" "[I" ∈ zT := zT_of 1535 (by decide +kernel) (by decide +kernel)
theorem zw_16 : Cond.lays RX12 RX12 "outputLength" "I" ∈ zT := zT_of 1537 (by decide +kernel) (by decide +kernel)
theorem zw_17 : Cond.laysFinal RX12 RX12 "bound" "[[I" ∈ zT := zT_of 1539 (by decide +kernel) (by decide +kernel)
theorem zw_18 : Cond.lays RX12 RX12 "wayRelation" "I" ∈ zT := zT_of 1541 (by decide +kernel) (by decide +kernel)
theorem zw_19 : Cond.lays RX12 RX12 "wayPlace" "I" ∈ zT := zT_of 1543 (by decide +kernel) (by decide +kernel)
theorem zw_20 : Cond.lays RX12 RX12 "wayGrant" "I" ∈ zT := zT_of 1545 (by decide +kernel) (by decide +kernel)
theorem zw_21 : Cond.lays RX12 RX12 "isForwardWay" "Z" ∈ zT := zT_of 1547 (by decide +kernel) (by decide +kernel)
theorem zw_22 : Cond.laysFinal RX12 RX12 "found" "[[I" ∈ zT := zT_of 1549 (by decide +kernel) (by decide +kernel)
theorem zw_23 : Cond.laysFinal RX12 RX12 "parent" "[I" ∈ zT := zT_of 1551 (by decide +kernel) (by decide +kernel)
theorem zw_24 : Cond.laysFinal RX12 RX12 "byName" "[I" ∈ zT := zT_of 1553 (by decide +kernel) (by decide +kernel)
theorem zw_25 : Cond.laysFinal RX12 RX12 "heads" "[I" ∈ zT := zT_of 1555 (by decide +kernel) (by decide +kernel)
theorem zw_26 : Cond.laysFinal RX12 RX12 "nexts" "[I" ∈ zT := zT_of 1557 (by decide +kernel) (by decide +kernel)
theorem zw_27 : Cond.lays RX12 RX12 "foundMany" "I" ∈ zT := zT_of 1559 (by decide +kernel) (by decide +kernel)
theorem zw_28 : Cond.lays RX12 RX12 "valueAt" "I" ∈ zT := zT_of 1561 (by decide +kernel) (by decide +kernel)
theorem zinX12 : ∀ w ∈ u_ws RX12 TX12 25, w ∈ zT := List.forall_mem_cons.mpr ⟨zw_4, List.forall_mem_cons.mpr ⟨zw_5, List.forall_mem_cons.mpr ⟨zw_6, List.forall_mem_cons.mpr ⟨zw_7, List.forall_mem_cons.mpr ⟨zw_8, List.forall_mem_cons.mpr ⟨zw_9, List.forall_mem_cons.mpr ⟨zw_10, List.forall_mem_cons.mpr ⟨zw_11, List.forall_mem_cons.mpr ⟨zw_12, List.forall_mem_cons.mpr ⟨zw_13, List.forall_mem_cons.mpr ⟨zw_14, List.forall_mem_cons.mpr ⟨zw_15, List.forall_mem_cons.mpr ⟨zw_16, List.forall_mem_cons.mpr ⟨zw_17, List.forall_mem_cons.mpr ⟨zw_18, List.forall_mem_cons.mpr ⟨zw_19, List.forall_mem_cons.mpr ⟨zw_20, List.forall_mem_cons.mpr ⟨zw_21, List.forall_mem_cons.mpr ⟨zw_22, List.forall_mem_cons.mpr ⟨zw_23, List.forall_mem_cons.mpr ⟨zw_24, List.forall_mem_cons.mpr ⟨zw_25, List.forall_mem_cons.mpr ⟨zw_26, List.forall_mem_cons.mpr ⟨zw_27, List.forall_mem_cons.mpr ⟨zw_28, (fun _ h => nomatch h)⟩⟩⟩⟩⟩⟩⟩⟩⟩⟩⟩⟩⟩⟩⟩⟩⟩⟩⟩⟩⟩⟩⟩⟩⟩
theorem zw_29 : Cond.fieldLink RX12 52 RX12 "thrown" "I" ∈ zT := zT_of 1488 (by decide +kernel) (by decide +kernel)
theorem dX12_no_6 : decode cX12_no 6 = .ok (.putfield 52, 3) := by decide +kernel
theorem dX12_no_9 : decode cX12_no 9 = .ok (.iload_n 1, 1) := by decide +kernel
theorem dX12_no_10 : decode cX12_no 10 = .ok (.ifCond .ne 7, 3) := by decide +kernel
theorem dX12_no_13 : decode cX12_no 13 = .ok (.iconst 1, 1) := by decide +kernel
theorem dX12_no_14 : decode cX12_no 14 = .ok (.goto 4, 3) := by decide +kernel
theorem dX12_no_18 : decode cX12_no 18 = .ok (.ireturn, 1) := by decide +kernel
theorem dX12_no_17 : decode cX12_no 17 = .ok (.iconst 0, 1) := by decide +kernel
set_option maxHeartbeats 4000000 in
set_option maxRecDepth 100000 in
theorem k_X12_no (l : Launch) (sz : Nat) (D : va_G) (a : Nat → Nat) (i : Nat → Int32) (g k : Int32) (hg : g = 0 ∨ g = 1) : Met l yX12_no (.code yX12_no cX12_no 3 (some .boolean) :: zT) ({ frames := 0, cells := 0, slots := 0, locals := 0 }) (va_Pc [.ref (a 0), .int g, .int k] (zM D [((a 0), .inr (12, zMo a i))] [] sz)) (va_Qi (fun (r : Int32) (u : Nat → Int32) => (g = 0 → r = 1 ∧ u = upd i 0 k) ∧ (¬ g = 0 → r = 0 ∧ u = i)) (fun u t => zE D [(a 0, .inr (12, zMo a u))] [] (va_A [((a 0), .inr (12, zMo a i))] sz) t) (va_A [((a 0), .inr (12, zMo a i))] sz)) 0 0 (va_A [((a 0), .inr (12, zMo a i))] sz) := by
  refine Met.ofW (cc := cX12_no) (maxL := 3) (ret := (some .boolean)) (by decide) rfl ?_
  intro p e s m args below meth c s₁ B hml hv
  obtain ⟨rfl, hsz, hP, hK, hD0⟩ := hv
  have hx := B.exec
  have hb := B.bytes
  have hr := B.returns
  have hts := atoms_spec (ws := (.code yX12_no cX12_no 3 (some .boolean) :: zT)) B.pre
  have ht : ∀ w ∈ zT, w.before _ s = true := fun w h => hts w (List.mem_cons_of_mem _ h)
  have hown : s.vm.findClass RX12 = some m.cls := findClass_of_methodNamed B.named
  have hlocks := B.notSynchronized
  subst hsz
  have hD := hD0.self (sz := s.heap.size)
  generalize hAe : va_A [((a 0), .inr (12, zMo a i))] s.heap.size = A at hD ⊢
  have hA : ∀ q : Nat, s.heap.size ≤ q → A q := fun q h => by rw [← hAe]; exact Or.inr h
  have hS : va_S A s.heap s.heap [] := va_S.rf
  have hP : va_P D vwCl [((a 0), .inr (12, zMo a i))] s.heap := hP
  have hl := lv_entry ([.ref (a 0), .int g, .int k]) (n := 3) (Nat.le_of_ble_eq_true rfl)
  rw [lg_entry_eq]
  generalize (lg_sl ([.ref (a 0), .int g, .int k]) ++ List.replicate (3 - (lg_sl ([.ref (a 0), .int g, .int k])).length) Slot.unset).toArray = ls at hl ⊢
  have hl : lv_has ls 3 [(0, .ref (a 0)), (1, .int g), (2, .int k)] := hl
  skip
  rcases hg with rfl | rfl
  · skip
    refine lv_iload_n hx hb dX12_no_0 rfl (lv_at hl 1 rfl) ?_
    refine lv_if_ne (tgt := 9) hx hb dX12_no_1 (by decide) (fun c_1 => ?_) (fun c_1 => ?_)
    · skip
      exact absurd c_1 (by decide)
    · skip
      refine lv_aload_n hx hb dX12_no_4 rfl (lv_at hl 0 rfl) ?_
      refine lv_iload_n hx hb dX12_no_5 rfl (lv_at hl 2 rfl) ?_
      refine va_put (D := D) (ci := 12) (v := .int k) (ty := .int) (C := RX12) (T := TX12) (N := 25) hx hb ht zinX12 tyX12 tyX12_ok nmX12 hown hK hP hD hS 0 rfl rfl 0 (by decide) (ht _ zw_29) (fun _ h9 => h9) rfl (by decide +kernel) rfl rfl (Nat.le_of_ble_eq_true rfl) dX12_no_6 (fun H locs hP hD hS => ?_)
      have hP : va_P D vwCl [((a 0), .inr (12, zMo a (upd i 0 k)))] H := hP
      have hD : va_D A [((a 0), .inr (12, zMo a (upd i 0 k)))] := hD
      refine lv_iload_n hx hb dX12_no_9 rfl (lv_at hl 1 rfl) ?_
      refine lv_if_ne (tgt := 17) hx hb dX12_no_10 (by decide) (fun c_2 => ?_) (fun c_2 => ?_)
      · skip
        exact absurd c_2 (by decide)
      · skip
        refine lv_iconst (v := 1) hx hb dX12_no_13 (by decide) ?_
        refine lv_goto (tgt := 18) hx hb dX12_no_14 (by decide) ?_
        have hP9 := hP.sub (ws' := [((a 0), .inr (12, zMo a (upd i 0 k)))]) [0] rfl
        have hD9 := hD.sub (ws' := [((a 0), .inr (12, zMo a (upd i 0 k)))]) [0] (by decide) rfl
        have hK9 := hK.sub (tys' := []) [] rfl
        refine W.widen (k := 0) (n := 0) (Nat.le_of_ble_eq_true rfl) (Nat.le_of_ble_eq_true rfl) ?_
        exact W.zret (v := 1) hx hb hr rfl (fun t ht0 hW => ⟨⟨1, upd i 0 k, rfl, ⟨fun _ => ⟨rfl, rfl⟩, fun h => absurd rfl h⟩, (zE_of hP9 hK9 hD9 ht0 hW)⟩, hS.F ht0⟩) hS.2.2 dX12_no_18
  · skip
    refine lv_iload_n hx hb dX12_no_0 rfl (lv_at hl 1 rfl) ?_
    refine lv_if_ne (tgt := 9) hx hb dX12_no_1 (by decide) (fun c_3 => ?_) (fun c_3 => ?_)
    · skip
      refine lv_iload_n hx hb dX12_no_9 rfl (lv_at hl 1 rfl) ?_
      refine lv_if_ne (tgt := 17) hx hb dX12_no_10 (by decide) (fun c_4 => ?_) (fun c_4 => ?_)
      · skip
        refine lv_iconst (v := 0) hx hb dX12_no_17 (by decide) ?_
        have hP9 := hP.sub (ws' := [((a 0), .inr (12, zMo a i))]) [0] rfl
        have hD9 := hD.sub (ws' := [((a 0), .inr (12, zMo a i))]) [0] (by decide) rfl
        have hK9 := hK.sub (tys' := []) [] rfl
        refine W.widen (k := 0) (n := 0) (Nat.le_of_ble_eq_true rfl) (Nat.le_of_ble_eq_true rfl) ?_
        exact W.zret (v := 0) hx hb hr rfl (fun t ht0 hW => ⟨⟨0, i, rfl, ⟨fun h => absurd h (by decide), fun _ => ⟨rfl, rfl⟩⟩, (zE_of hP9 hK9 hD9 ht0 hW)⟩, hS.F ht0⟩) hS.2.2 dX12_no_18
      · skip
        exact absurd c_4 (by decide)
    · skip
      exact absurd c_3 (by decide)
abbrev cX12_lacks : ByteArray := prog_14_method_4_code
def yX12_lacks : MethodName := ⟨RX12, "lacks", "(Z)Z"⟩
theorem dX12_lacks_0 : decode cX12_lacks 0 = .ok (.aload_n 0, 1) := by decide +kernel
theorem dX12_lacks_1 : decode cX12_lacks 1 = .ok (.iconst 0, 1) := by decide +kernel
theorem dX12_lacks_2 : decode cX12_lacks 2 = .ok (.putfield 52, 3) := by decide +kernel
theorem dX12_lacks_5 : decode cX12_lacks 5 = .ok (.aload_n 0, 1) := by decide +kernel
theorem dX12_lacks_6 : decode cX12_lacks 6 = .ok (.iload_n 1, 1) := by decide +kernel
theorem dX12_lacks_7 : decode cX12_lacks 7 = .ok (.iconst 1, 1) := by decide +kernel
theorem zw_30 : Cond.methodLink RX12 56 yX12_no ∈ zT := zT_of 1579 (by decide +kernel) (by decide +kernel)
theorem zw_31 : Cond.instanceMethod yX12_no ∈ zT := zT_of 1581 (by decide +kernel) (by decide +kernel)
theorem zw_32 : Cond.selects RX12 yX12_no yX12_no ∈ zT := zT_ofS 37 (by decide +kernel) (by decide +kernel)
theorem zw_33 : Cond.code yX12_no cX12_no 3 (some .boolean) ∈ zT := zT_of 1582 (by decide +kernel) (by decide +kernel)
theorem dX12_lacks_8 : decode cX12_lacks 8 = .ok (.invokevirtual 56, 3) := by decide +kernel
theorem dX12_lacks_11 : decode cX12_lacks 11 = .ok (.ireturn, 1) := by decide +kernel
set_option maxHeartbeats 4000000 in
set_option maxRecDepth 100000 in
theorem k_X12_lacks (l : Launch) (sz : Nat) (D : va_G) (a : Nat → Nat) (i : Nat → Int32) (g : Int32) (hg : g = 0 ∨ g = 1) : Met l yX12_lacks (.code yX12_lacks cX12_lacks 2 (some .boolean) :: zT) ({ frames := 1, cells := 0, slots := 0, locals := 22 }) (va_Pc [.ref (a 0), .int g] (zM D [((a 0), .inr (12, zMo a i))] [] sz)) (va_Qi (fun (r : Int32) (u : Nat → Int32) => (g = 0 → r = 1 ∧ u = upd i 0 1) ∧ (¬ g = 0 → r = 0 ∧ u = upd i 0 0)) (fun u t => zE D [(a 0, .inr (12, zMo a u))] [] (va_A [((a 0), .inr (12, zMo a i))] sz) t) (va_A [((a 0), .inr (12, zMo a i))] sz)) 0 0 (va_A [((a 0), .inr (12, zMo a i))] sz) := by
  refine Met.ofW (cc := cX12_lacks) (maxL := 2) (ret := (some .boolean)) (by decide) rfl ?_
  intro p e s m args below meth c s₁ B hml hv
  obtain ⟨rfl, hsz, hP, hK, hD0⟩ := hv
  have hx := B.exec
  have hb := B.bytes
  have hr := B.returns
  have hts := atoms_spec (ws := (.code yX12_lacks cX12_lacks 2 (some .boolean) :: zT)) B.pre
  have ht : ∀ w ∈ zT, w.before _ s = true := fun w h => hts w (List.mem_cons_of_mem _ h)
  have hown : s.vm.findClass RX12 = some m.cls := findClass_of_methodNamed B.named
  have hlocks := B.notSynchronized
  subst hsz
  have hD := hD0.self (sz := s.heap.size)
  generalize hAe : va_A [((a 0), .inr (12, zMo a i))] s.heap.size = A at hD ⊢
  have hA : ∀ q : Nat, s.heap.size ≤ q → A q := fun q h => by rw [← hAe]; exact Or.inr h
  have hS : va_S A s.heap s.heap [] := va_S.rf
  have hP : va_P D vwCl [((a 0), .inr (12, zMo a i))] s.heap := hP
  have hl := lv_entry ([.ref (a 0), .int g]) (n := 2) (Nat.le_of_ble_eq_true rfl)
  rw [lg_entry_eq]
  generalize (lg_sl ([.ref (a 0), .int g]) ++ List.replicate (2 - (lg_sl ([.ref (a 0), .int g])).length) Slot.unset).toArray = ls at hl ⊢
  have hl : lv_has ls 2 [(0, .ref (a 0)), (1, .int g)] := hl
  skip
  rcases hg with rfl | rfl
  · skip
    refine lv_aload_n hx hb dX12_lacks_0 rfl (lv_at hl 0 rfl) ?_
    refine lv_iconst (v := 0) hx hb dX12_lacks_1 (by decide) ?_
    refine va_put (D := D) (ci := 12) (v := .int 0) (ty := .int) (C := RX12) (T := TX12) (N := 25) hx hb ht zinX12 tyX12 tyX12_ok nmX12 hown hK hP hD hS 0 rfl rfl 0 (by decide) (ht _ zw_29) (fun _ h9 => h9) rfl (by decide +kernel) rfl rfl (Nat.le_of_ble_eq_true rfl) dX12_lacks_2 (fun H locs hP hD hS => ?_)
    have hP : va_P D vwCl [((a 0), .inr (12, zMo a (upd i 0 0)))] H := hP
    have hD : va_D A [((a 0), .inr (12, zMo a (upd i 0 0)))] := hD
    refine lv_aload_n hx hb dX12_lacks_5 rfl (lv_at hl 0 rfl) ?_
    refine lv_iload_n hx hb dX12_lacks_6 rfl (lv_at hl 1 rfl) ?_
    refine lv_iconst (v := 1) hx hb dX12_lacks_7 (by decide) ?_
    have hPc := hP.sub (ws' := [((a 0), .inr (12, zMo a (upd i 0 0)))]) [0] rfl
    have hDc := hD.sub (ws' := [((a 0), .inr (12, zMo a (upd i 0 0)))]) [0] (by decide) rfl
    have hKc := hK.sub (tys' := []) [] rfl
    have hFc := va_free (wc := [((a 0), .inr (12, zMo a (upd i 0 0)))]) hD hS hA [0] rfl
    refine va_calli (va_runV (As := [.int 0, .int 1]) (rest := []) ⟨hx, hb, hml, hown, ht⟩ (k_X12_no l _ D a (upd i 0 0) 0 1 (by decide)) (cwV 2 ht (zG_V zw_30 zw_31 zw_32 zw_2 zw_33) rfl rfl rfl (by decide +kernel) ⟨Nat.le_of_ble_eq_true rfl, Nat.le_of_ble_eq_true rfl⟩) (zM_V (va_recv hK hP (ci := 12) (q0 := 0) rfl rfl) hPc hKc hDc) rfl rfl hl.1 rfl (lv_room (Nat.le_of_ble_eq_true rfl)) dX12_lacks_8 ⟨Nat.le_of_ble_eq_true rfl, Nat.le_of_ble_eq_true rfl⟩) hS (fun q _ h => hFc q h) hFc (fun r_1 u_1 t H1 locs ht0 hvm hw_1 hB hz1 hk1 hS => ?_)
    obtain ⟨rfl, rfl⟩ := hw_1.1 rfl
    obtain ⟨hP1, hK1, hD1⟩ := hB
    rw [ht0] at hP1
    have hK1 := va_K.moved hvm.symm hK1
    obtain ⟨hP, hD⟩ := va_join (wr := []) (w1 := [((a 0), .inr (12, zMo a (upd i 0 1)))]) hP hD [0] [] rfl rfl (by decide) (by decide) hk1 hFc hP1 hD1
    generalize H1 = H at hP hS ⊢
    have hP : va_P D vwCl [((a 0), .inr (12, zMo a (upd i 0 1)))] H := hP
    have hD : va_D A [((a 0), .inr (12, zMo a (upd i 0 1)))] := hD
    have hP9 := hP.sub (ws' := [((a 0), .inr (12, zMo a (upd i 0 1)))]) [0] rfl
    have hD9 := hD.sub (ws' := [((a 0), .inr (12, zMo a (upd i 0 1)))]) [0] (by decide) rfl
    have hK9 := hK.sub (tys' := []) [] rfl
    refine W.widen (k := 0) (n := 0) (Nat.le_of_ble_eq_true rfl) (Nat.le_of_ble_eq_true rfl) ?_
    exact W.zret (v := 1) hx hb hr rfl (fun t ht0 hW => ⟨⟨1, upd i 0 1, rfl, ⟨fun _ => ⟨rfl, rfl⟩, fun h => absurd rfl h⟩, (zE_of hP9 hK9 hD9 ht0 hW)⟩, hS.F ht0⟩) hS.2.2 dX12_lacks_11
  · skip
    refine lv_aload_n hx hb dX12_lacks_0 rfl (lv_at hl 0 rfl) ?_
    refine lv_iconst (v := 0) hx hb dX12_lacks_1 (by decide) ?_
    refine va_put (D := D) (ci := 12) (v := .int 0) (ty := .int) (C := RX12) (T := TX12) (N := 25) hx hb ht zinX12 tyX12 tyX12_ok nmX12 hown hK hP hD hS 0 rfl rfl 0 (by decide) (ht _ zw_29) (fun _ h9 => h9) rfl (by decide +kernel) rfl rfl (Nat.le_of_ble_eq_true rfl) dX12_lacks_2 (fun H locs hP hD hS => ?_)
    have hP : va_P D vwCl [((a 0), .inr (12, zMo a (upd i 0 0)))] H := hP
    have hD : va_D A [((a 0), .inr (12, zMo a (upd i 0 0)))] := hD
    refine lv_aload_n hx hb dX12_lacks_5 rfl (lv_at hl 0 rfl) ?_
    refine lv_iload_n hx hb dX12_lacks_6 rfl (lv_at hl 1 rfl) ?_
    refine lv_iconst (v := 1) hx hb dX12_lacks_7 (by decide) ?_
    have hPc := hP.sub (ws' := [((a 0), .inr (12, zMo a (upd i 0 0)))]) [0] rfl
    have hDc := hD.sub (ws' := [((a 0), .inr (12, zMo a (upd i 0 0)))]) [0] (by decide) rfl
    have hKc := hK.sub (tys' := []) [] rfl
    have hFc := va_free (wc := [((a 0), .inr (12, zMo a (upd i 0 0)))]) hD hS hA [0] rfl
    refine va_calli (va_runV (As := [.int 1, .int 1]) (rest := []) ⟨hx, hb, hml, hown, ht⟩ (k_X12_no l _ D a (upd i 0 0) 1 1 (by decide)) (cwV 2 ht (zG_V zw_30 zw_31 zw_32 zw_2 zw_33) rfl rfl rfl (by decide +kernel) ⟨Nat.le_of_ble_eq_true rfl, Nat.le_of_ble_eq_true rfl⟩) (zM_V (va_recv hK hP (ci := 12) (q0 := 0) rfl rfl) hPc hKc hDc) rfl rfl hl.1 rfl (lv_room (Nat.le_of_ble_eq_true rfl)) dX12_lacks_8 ⟨Nat.le_of_ble_eq_true rfl, Nat.le_of_ble_eq_true rfl⟩) hS (fun q _ h => hFc q h) hFc (fun r_2 u_2 t H1 locs ht0 hvm hw_2 hB hz1 hk1 hS => ?_)
    obtain ⟨rfl, rfl⟩ := hw_2.2 (by decide)
    obtain ⟨hP1, hK1, hD1⟩ := hB
    rw [ht0] at hP1
    have hK1 := va_K.moved hvm.symm hK1
    obtain ⟨hP, hD⟩ := va_join (wr := []) (w1 := [((a 0), .inr (12, zMo a (upd i 0 0)))]) hP hD [0] [] rfl rfl (by decide) (by decide) hk1 hFc hP1 hD1
    generalize H1 = H at hP hS ⊢
    have hP : va_P D vwCl [((a 0), .inr (12, zMo a (upd i 0 0)))] H := hP
    have hD : va_D A [((a 0), .inr (12, zMo a (upd i 0 0)))] := hD
    have hP9 := hP.sub (ws' := [((a 0), .inr (12, zMo a (upd i 0 0)))]) [0] rfl
    have hD9 := hD.sub (ws' := [((a 0), .inr (12, zMo a (upd i 0 0)))]) [0] (by decide) rfl
    have hK9 := hK.sub (tys' := []) [] rfl
    refine W.widen (k := 0) (n := 0) (Nat.le_of_ble_eq_true rfl) (Nat.le_of_ble_eq_true rfl) ?_
    exact W.zret (v := 0) hx hb hr rfl (fun t ht0 hW => ⟨⟨0, upd i 0 0, rfl, ⟨fun h => absurd h (by decide), fun _ => ⟨rfl, rfl⟩⟩, (zE_of hP9 hK9 hD9 ht0 hW)⟩, hS.F ht0⟩) hS.2.2 dX12_lacks_11
