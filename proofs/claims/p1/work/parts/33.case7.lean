theorem dL_law__556 : decode cL_law_ 556 = .ok (.aload_n 1, 1) := by decide +kernel
theorem dL_law__557 : decode cL_law_ 557 = .ok (.aload_n 0, 1) := by decide +kernel
theorem dL_law__558 : decode cL_law_ 558 = .ok (.iload 4, 2) := by decide +kernel
theorem dL_law__560 : decode cL_law_ 560 = .ok (.iconst 1, 1) := by decide +kernel
theorem dL_law__561 : decode cL_law_ 561 = .ok (.iadd, 1) := by decide +kernel
theorem dL_law__562 : decode cL_law_ 562 = .ok (.iaload, 1) := by decide +kernel
theorem dL_law__563 : decode cL_law_ 563 = .ok (.aload_n 0, 1) := by decide +kernel
theorem dL_law__564 : decode cL_law_ 564 = .ok (.iload 4, 2) := by decide +kernel
theorem dL_law__566 : decode cL_law_ 566 = .ok (.iconst 2, 1) := by decide +kernel
theorem dL_law__567 : decode cL_law_ 567 = .ok (.iadd, 1) := by decide +kernel
theorem dL_law__568 : decode cL_law_ 568 = .ok (.iaload, 1) := by decide +kernel
theorem dL_law__569 : decode cL_law_ 569 = .ok (.aload_n 0, 1) := by decide +kernel
theorem dL_law__570 : decode cL_law_ 570 = .ok (.iload 4, 2) := by decide +kernel
theorem dL_law__572 : decode cL_law_ 572 = .ok (.iconst 3, 1) := by decide +kernel
theorem dL_law__573 : decode cL_law_ 573 = .ok (.iadd, 1) := by decide +kernel
theorem dL_law__574 : decode cL_law_ 574 = .ok (.iaload, 1) := by decide +kernel
theorem dL_law__575 : decode cL_law_ 575 = .ok (.aload_n 3, 1) := by decide +kernel
theorem zw_1121 : Cond.methodLink RL 176 yL_part ∈ zT := zT_of 962 (by decide +kernel) (by decide +kernel)
theorem zw_1122 : Cond.static yL_part ∈ zT := zT_of 963 (by decide +kernel) (by decide +kernel)
theorem zw_1123 : Cond.codeWith yL_part cL_part 6 (some .int) [(0, 12, 15, 21), (0, 12, 19, 15)] ∈ zT := zT_of 964 (by decide +kernel) (by decide +kernel)
theorem dL_law__576 : decode cL_law_ 576 = .ok (.invokestatic 176, 3) := by decide +kernel
theorem dL_law__579 : decode cL_law_ 579 = .ok (.istore 5, 2) := by decide +kernel
theorem dL_law__581 : decode cL_law_ 581 = .ok (.aload_n 2, 1) := by decide +kernel
theorem dL_law__582 : decode cL_law_ 582 = .ok (.aload_n 0, 1) := by decide +kernel
theorem dL_law__583 : decode cL_law_ 583 = .ok (.iload 4, 2) := by decide +kernel
theorem dL_law__585 : decode cL_law_ 585 = .ok (.iconst 1, 1) := by decide +kernel
theorem dL_law__586 : decode cL_law_ 586 = .ok (.iadd, 1) := by decide +kernel
theorem dL_law__587 : decode cL_law_ 587 = .ok (.iaload, 1) := by decide +kernel
theorem dL_law__588 : decode cL_law_ 588 = .ok (.aload_n 0, 1) := by decide +kernel
theorem dL_law__589 : decode cL_law_ 589 = .ok (.iload 4, 2) := by decide +kernel
theorem dL_law__591 : decode cL_law_ 591 = .ok (.iconst 2, 1) := by decide +kernel
theorem dL_law__592 : decode cL_law_ 592 = .ok (.iadd, 1) := by decide +kernel
theorem dL_law__593 : decode cL_law_ 593 = .ok (.iaload, 1) := by decide +kernel
theorem dL_law__594 : decode cL_law_ 594 = .ok (.aload_n 0, 1) := by decide +kernel
theorem dL_law__595 : decode cL_law_ 595 = .ok (.iload 4, 2) := by decide +kernel
theorem dL_law__597 : decode cL_law_ 597 = .ok (.iconst 3, 1) := by decide +kernel
theorem dL_law__598 : decode cL_law_ 598 = .ok (.iadd, 1) := by decide +kernel
theorem dL_law__599 : decode cL_law_ 599 = .ok (.iaload, 1) := by decide +kernel
theorem zw_1124 : Cond.methodLink RL 178 yX12_part_ ∈ zT := zT_of 1639 (by decide +kernel) (by decide +kernel)
theorem zw_1125 : Cond.instanceMethod yX12_part_ ∈ zT := zT_of 1640 (by decide +kernel) (by decide +kernel)
theorem zw_1126 : Cond.selects RX12 yX12_part_ yX12_part_ ∈ zT := zT_of 1641 (by decide +kernel) (by decide +kernel)
theorem zw_1127 : Cond.code yX12_part_ cX12_part_ 5 (some .int) ∈ zT := zT_of 1642 (by decide +kernel) (by decide +kernel)
theorem dL_law__600 : decode cL_law_ 600 = .ok (.invokevirtual 178, 3) := by decide +kernel
theorem dL_law__603 : decode cL_law_ 603 = .ok (.istore 6, 2) := by decide +kernel
theorem dL_law__605 : decode cL_law_ 605 = .ok (.aload_n 2, 1) := by decide +kernel
theorem dL_law__606 : decode cL_law_ 606 = .ok (.invokevirtual 161, 3) := by decide +kernel
theorem dL_law__609 : decode cL_law_ 609 = .ok (.iload 5, 2) := by decide +kernel
theorem dL_law__611 : decode cL_law_ 611 = .ok (.if_icmp .eq 5, 3) := by decide +kernel
theorem dL_law__616 : decode cL_law_ 616 = .ok (.iload 5, 2) := by decide +kernel
theorem dL_law__618 : decode cL_law_ 618 = .ok (.ifCond .ne 15, 3) := by decide +kernel
theorem dL_law__633 : decode cL_law_ 633 = .ok (.goto 2800, 3) := by decide +kernel
theorem dL_law__621 : decode cL_law_ 621 = .ok (.aload_n 3, 1) := by decide +kernel
theorem dL_law__622 : decode cL_law_ 622 = .ok (.iconst 0, 1) := by decide +kernel
theorem dL_law__623 : decode cL_law_ 623 = .ok (.laload, 1) := by decide +kernel
theorem dL_law__624 : decode cL_law_ 624 = .ok (.iload 6, 2) := by decide +kernel
theorem dL_law__626 : decode cL_law_ 626 = .ok (.i2l, 1) := by decide +kernel
theorem dL_law__627 : decode cL_law_ 627 = .ok (.lcmp, 1) := by decide +kernel
theorem dL_law__628 : decode cL_law_ 628 = .ok (.ifCond .eq 5, 3) := by decide +kernel
theorem dL_law__3322 : decode cL_law_ 3322 = .ok (.aload_n 1, 1) := by decide +kernel
theorem zw_1128 : Cond.methodLink RL 317 yX11_meanLines ∈ zT := zT_of 561 (by decide +kernel) (by decide +kernel)
theorem zw_1129 : Cond.instanceMethod yX11_meanLines ∈ zT := zT_of 562 (by decide +kernel) (by decide +kernel)
theorem zw_1130 : Cond.selects RX11 yX11_meanLines yX11_meanLines ∈ zT := zT_of 563 (by decide +kernel) (by decide +kernel)
theorem zw_1131 : Cond.code yX11_meanLines cX11_meanLines 4 (some .double) ∈ zT := zT_of 564 (by decide +kernel) (by decide +kernel)
theorem dL_law__3323 : decode cL_law_ 3323 = .ok (.invokevirtual 317, 3) := by decide +kernel
theorem dL_law__3326 : decode cL_law_ 3326 = .ok (.dstore 5, 2) := by decide +kernel
theorem dL_law__3328 : decode cL_law_ 3328 = .ok (.aload_n 2, 1) := by decide +kernel
theorem zw_1132 : Cond.methodLink RL 321 yX12_meanLines ∈ zT := zT_of 2078 (by decide +kernel) (by decide +kernel)
theorem zw_1133 : Cond.instanceMethod yX12_meanLines ∈ zT := zT_of 2079 (by decide +kernel) (by decide +kernel)
theorem zw_1134 : Cond.selects RX12 yX12_meanLines yX12_meanLines ∈ zT := zT_of 2080 (by decide +kernel) (by decide +kernel)
theorem zw_1135 : Cond.code yX12_meanLines cX12_meanLines 4 (some .double) ∈ zT := zT_of 2081 (by decide +kernel) (by decide +kernel)
theorem dL_law__3329 : decode cL_law_ 3329 = .ok (.invokevirtual 321, 3) := by decide +kernel
theorem dL_law__3332 : decode cL_law_ 3332 = .ok (.dstore 7, 2) := by decide +kernel
theorem dL_law__3334 : decode cL_law_ 3334 = .ok (.dload 5, 2) := by decide +kernel
theorem dL_law__3336 : decode cL_law_ 3336 = .ok (.dload 7, 2) := by decide +kernel
theorem dL_law__3338 : decode cL_law_ 3338 = .ok (.dcmp .l, 1) := by decide +kernel
theorem dL_law__3339 : decode cL_law_ 3339 = .ok (.ifCond .eq 21, 3) := by decide +kernel
theorem dL_law__3360 : decode cL_law_ 3360 = .ok (.goto 73, 3) := by decide +kernel
theorem dL_law__3363 : decode cL_law_ 3363 = .ok (.aload_n 1, 1) := by decide +kernel
theorem zw_1136 : Cond.methodLink RL 322 yX11_provedShare ∈ zT := zT_of 565 (by decide +kernel) (by decide +kernel)
theorem zw_1137 : Cond.instanceMethod yX11_provedShare ∈ zT := zT_of 566 (by decide +kernel) (by decide +kernel)
theorem zw_1138 : Cond.selects RX11 yX11_provedShare yX11_provedShare ∈ zT := zT_of 567 (by decide +kernel) (by decide +kernel)
theorem zw_1139 : Cond.code yX11_provedShare cX11_provedShare 4 (some .float) ∈ zT := zT_of 568 (by decide +kernel) (by decide +kernel)
theorem dL_law__3364 : decode cL_law_ 3364 = .ok (.invokevirtual 322, 3) := by decide +kernel
theorem dL_law__3367 : decode cL_law_ 3367 = .ok (.f2d, 1) := by decide +kernel
theorem dL_law__3368 : decode cL_law_ 3368 = .ok (.dstore 5, 2) := by decide +kernel
theorem dL_law__3370 : decode cL_law_ 3370 = .ok (.aload_n 2, 1) := by decide +kernel
theorem zw_1140 : Cond.methodLink RL 326 yX12_provedShare ∈ zT := zT_of 2082 (by decide +kernel) (by decide +kernel)
theorem zw_1141 : Cond.instanceMethod yX12_provedShare ∈ zT := zT_of 2083 (by decide +kernel) (by decide +kernel)
theorem zw_1142 : Cond.selects RX12 yX12_provedShare yX12_provedShare ∈ zT := zT_of 2084 (by decide +kernel) (by decide +kernel)
theorem zw_1143 : Cond.code yX12_provedShare cX12_provedShare 3 (some .float) ∈ zT := zT_of 2085 (by decide +kernel) (by decide +kernel)
theorem dL_law__3371 : decode cL_law_ 3371 = .ok (.invokevirtual 326, 3) := by decide +kernel
theorem dL_law__3374 : decode cL_law_ 3374 = .ok (.f2d, 1) := by decide +kernel
theorem dL_law__3375 : decode cL_law_ 3375 = .ok (.dstore 7, 2) := by decide +kernel
theorem dL_law__3377 : decode cL_law_ 3377 = .ok (.dload 5, 2) := by decide +kernel
theorem dL_law__3379 : decode cL_law_ 3379 = .ok (.dload 7, 2) := by decide +kernel
theorem dL_law__3381 : decode cL_law_ 3381 = .ok (.dcmp .l, 1) := by decide +kernel
theorem dL_law__3382 : decode cL_law_ 3382 = .ok (.ifCond .eq 21, 3) := by decide +kernel
theorem dL_law__3403 : decode cL_law_ 3403 = .ok (.goto 30, 3) := by decide +kernel
set_option maxHeartbeats 4000000 in
set_option maxRecDepth 100000 in
theorem zcase_part {p : Program} {l : Launch} {e : Env} {s : State} {m : MethodId} {below : List Frame} {meth : Method} {c : Code} {b L : Nat} {xs : Nat → Int32} {A : Nat → Prop} (D : va_G) (h cs : Nat → Nat) (o : Nat) (cL : ClassId) (a : Nat → Nat) (cI : ClassId) (hx : p.tables.exec = Jvm.exec) (hb : c.code = code) (hml : c.maxLocals = 9) (hr : meth.sig.returnType = ret) (hown : s.vm.findClass RL = some m.cls) (ht : ∀ w ∈ zT, w.before #[Value.ref b] s = true) (hlocks : meth.locks = false) (hX : va_X b L xs s s.heap) (hbl : b < s.heap.size) (hL : L = 6) (hAe : ∀ q : Nat, A q ↔ s.heap.size ≤ q) (hl0 : l.stackTraces = false) (hEx : zEx A s) (hNc : zNc s) {H : Heap} {locs : List Loc} {ls : Array Slot} (hK : va_K D vwCl [((cs 9), .object RX9), (cL, .long), (cI, .int)] s) (hP : va_P D vwCl [((h 0), .inr (11, [.ref (h 1), .ref (h 9), .int 0, .int 0, .ref (h 20), .ref (h 37), .int 0, .ref (h 38), .ref (h 42), .ref (h 43), .ref (h 44), .ref (h 45), .ref (h 46), .ref (h 47), .ref (h 48)])), ((h 1), .inr (8, [.ref (h 2), .int 0, .ref (h 3), .ref (h 4), .int 0, .ref (h 5), .int 0, .ref (h 6), .int 0, .ref (h 7), .int 0])), ((h 3), .inl ((cs 9), 10, .inr (.inr (.inr (.inr (fun _ => none)))))), (o, .inl (cL, 1, .inr (.inl (fun _ => 0)))), ((a 0), .inr (12, zMo a zI0)), ((a 1), .inl (cI, 6792, .inl zI0))] H) (hD : va_D A [((h 0), .inr (11, [.ref (h 1), .ref (h 9), .int 0, .int 0, .ref (h 20), .ref (h 37), .int 0, .ref (h 38), .ref (h 42), .ref (h 43), .ref (h 44), .ref (h 45), .ref (h 46), .ref (h 47), .ref (h 48)])), ((h 1), .inr (8, [.ref (h 2), .int 0, .ref (h 3), .ref (h 4), .int 0, .ref (h 5), .int 0, .ref (h 6), .int 0, .ref (h 7), .int 0])), ((h 3), .inl ((cs 9), 10, .inr (.inr (.inr (.inr (fun _ => none)))))), (o, .inl (cL, 1, .inr (.inl (fun _ => 0)))), ((a 0), .inr (12, zMo a zI0)), ((a 1), .inl (cI, 6792, .inl zI0))]) (hS : va_S A s.heap H locs) (hl : lv_has ls 9 [(0, .ref b), (1, .ref (h 0)), (2, .ref (a 0)), (3, .ref o), (4, .int 0)]) : W p l e room_1 s m #[Value.ref b] below meth c H locs 1192 188302 (lw_Z below #[Value.ref b] s) (F0 m 556 ls []) := by
  have hbA : ¬ A b := fun h => Nat.not_le.mpr hbl ((hAe b).mp h)
  have hA : ∀ q : Nat, s.heap.size ≤ q → A q := fun q h => (hAe q).mpr h
  refine lv_aload_n hx hb dL_law__556 rfl (lv_at hl 1 rfl) ?_
  refine lv_aload_n hx hb dL_law__557 rfl (lv_at hl 0 rfl) ?_
  refine lv_iload hx hb dL_law__558 (lv_at hl 4 rfl) ?_
  refine lv_iconst (v := 1) hx hb dL_law__560 (by decide) ?_
  refine lv_iadd hx hb dL_law__561 ?_
  refine lv_topi (fun x_1 e_1 => ?_)
  obtain rfl : x_1 = 1 := e_1.trans (by decide)
  refine va_sld hx hb hX hbl hbA hS (by rw [hL]; exact vp_in_iff.mpr (by decide)) dL_law__562 ?_
  refine W.eq (g2 := F0 m 563 ls (.int (xs 1) :: .ref (h 0) :: [])) rfl ?_
  refine lv_aload_n hx hb dL_law__563 rfl (lv_at hl 0 rfl) ?_
  refine lv_iload hx hb dL_law__564 (lv_at hl 4 rfl) ?_
  refine lv_iconst (v := 2) hx hb dL_law__566 (by decide) ?_
  refine lv_iadd hx hb dL_law__567 ?_
  refine lv_topi (fun x_2 e_2 => ?_)
  obtain rfl : x_2 = 2 := e_2.trans (by decide)
  refine va_sld hx hb hX hbl hbA hS (by rw [hL]; exact vp_in_iff.mpr (by decide)) dL_law__568 ?_
  refine W.eq (g2 := F0 m 569 ls (.int (xs 2) :: .int (xs 1) :: .ref (h 0) :: [])) rfl ?_
  refine lv_aload_n hx hb dL_law__569 rfl (lv_at hl 0 rfl) ?_
  refine lv_iload hx hb dL_law__570 (lv_at hl 4 rfl) ?_
  refine lv_iconst (v := 3) hx hb dL_law__572 (by decide) ?_
  refine lv_iadd hx hb dL_law__573 ?_
  refine lv_topi (fun x_3 e_3 => ?_)
  obtain rfl : x_3 = 3 := e_3.trans (by decide)
  refine va_sld hx hb hX hbl hbA hS (by rw [hL]; exact vp_in_iff.mpr (by decide)) dL_law__574 ?_
  refine W.eq (g2 := F0 m 575 ls (.int (xs 3) :: .int (xs 2) :: .int (xs 1) :: .ref (h 0) :: [])) rfl ?_
  refine lv_aload_n hx hb dL_law__575 rfl (lv_at hl 3 rfl) ?_
  have hPc := hP.sub (ws' := [((h 0), .inr (11, [.ref (h 1), .ref (h 9), .int 0, .int 0, .ref (h 20), .ref (h 37), .int 0, .ref (h 38), .ref (h 42), .ref (h 43), .ref (h 44), .ref (h 45), .ref (h 46), .ref (h 47), .ref (h 48)])), ((h 1), .inr (8, [.ref (h 2), .int 0, .ref (h 3), .ref (h 4), .int 0, .ref (h 5), .int 0, .ref (h 6), .int 0, .ref (h 7), .int 0])), ((h 3), .inl ((cs 9), 10, .inr (.inr (.inr (.inr (fun _ => none)))))), (o, .inl (cL, 1, .inr (.inl (fun _ => 0))))]) [0, 1, 2, 3] rfl
  have hDc := hD.sub (ws' := [((h 0), .inr (11, [.ref (h 1), .ref (h 9), .int 0, .int 0, .ref (h 20), .ref (h 37), .int 0, .ref (h 38), .ref (h 42), .ref (h 43), .ref (h 44), .ref (h 45), .ref (h 46), .ref (h 47), .ref (h 48)])), ((h 1), .inr (8, [.ref (h 2), .int 0, .ref (h 3), .ref (h 4), .int 0, .ref (h 5), .int 0, .ref (h 6), .int 0, .ref (h 7), .int 0])), ((h 3), .inl ((cs 9), 10, .inr (.inr (.inr (.inr (fun _ => none)))))), (o, .inl (cL, 1, .inr (.inl (fun _ => 0))))]) [0, 1, 2, 3] (by decide) rfl
  have hKc := hK.sub (tys' := [((cs 9), .object RX9), (cL, .long)]) [0, 1] rfl
  have hFc := va_free (wc := [((h 0), .inr (11, [.ref (h 1), .ref (h 9), .int 0, .int 0, .ref (h 20), .ref (h 37), .int 0, .ref (h 38), .ref (h 42), .ref (h 43), .ref (h 44), .ref (h 45), .ref (h 46), .ref (h 47), .ref (h 48)])), ((h 1), .inr (8, [.ref (h 2), .int 0, .ref (h 3), .ref (h 4), .int 0, .ref (h 5), .int 0, .ref (h 6), .int 0, .ref (h 7), .int 0])), ((h 3), .inl ((cs 9), 10, .inr (.inr (.inr (.inr (fun _ => none)))))), (o, .inl (cL, 1, .inr (.inl (fun _ => 0))))]) hD hS hA [0, 1, 2, 3] rfl
  refine va_calli (vx_runSW (As := [.ref (h 0), .int (xs 1), .int (xs 2), .int (xs 3), .ref o]) (rest := []) ⟨hx, hb, hml, hown, ht⟩ (k_L_part l hl0 _ D h cs (xs 1) (xs 2) (xs 3) o cL) (vx_cwSW 5 ht (zG_S zw_1121 zw_1122 zw_773 zw_1123) rfl rfl rfl (by decide +kernel) ⟨Nat.le_of_ble_eq_true rfl, Nat.le_of_ble_eq_true rfl⟩) (zY_S hNc hEx hS hFc hPc hKc hDc) rfl rfl hl.1 rfl (lv_room (Nat.le_of_ble_eq_true rfl)) dL_law__576 ⟨Nat.le_of_ble_eq_true rfl, Nat.le_of_ble_eq_true rfl⟩) hS (fun q _ h => hFc q h) hFc (fun r_4 u_4 t H1 locs ht0 hvm hw_4 hB hz1 hk1 hS => ?_)
  obtain ⟨g_4, hg_4, hB⟩ := hB
  obtain ⟨hP1, hK1, hD1⟩ := hB
  rw [ht0] at hP1
  have hK1 := va_K.moved hvm.symm hK1
  obtain ⟨hP, hD⟩ := va_join (wr := [((a 0), .inr (12, zMo a zI0)), ((a 1), .inl (cI, 6792, .inl zI0))]) (w1 := [(o, .inl (cL, 1, .inr (.inl g_4)))]) hP hD [0, 1, 2, 3] [4, 5] rfl rfl (by decide) (by decide) hk1 hFc hP1 hD1
  generalize H1 = H at hP hS ⊢
  have hP : va_P D vwCl [((a 0), .inr (12, zMo a zI0)), ((a 1), .inl (cI, 6792, .inl zI0)), (o, .inl (cL, 1, .inr (.inl g_4)))] H := hP
  have hD : va_D A [((a 0), .inr (12, zMo a zI0)), ((a 1), .inl (cI, 6792, .inl zI0)), (o, .inl (cL, 1, .inr (.inl g_4)))] := hD
  refine W.widen (k := 1195) (n := 188320) (Nat.le_of_ble_eq_true rfl) (Nat.le_of_ble_eq_true rfl) ?_
  refine lv_istore (lv' := [(5, .int r_4), (0, .ref b), (1, .ref (h 0)), (2, .ref (a 0)), (3, .ref o), (4, .int 0)]) hx hb dL_law__579 hl (by decide) rfl (fun ls hl => ?_)
  refine lv_aload_n hx hb dL_law__581 rfl (lv_at hl 3 rfl) ?_
  refine lv_aload_n hx hb dL_law__582 rfl (lv_at hl 1 rfl) ?_
  refine lv_iload hx hb dL_law__583 (lv_at hl 5 rfl) ?_
  refine lv_iconst (v := 1) hx hb dL_law__585 (by decide) ?_
  refine lv_iadd hx hb dL_law__586 ?_
  refine lv_topi (fun x_5 e_5 => ?_)
  obtain rfl : x_5 = 1 := e_5.trans (by decide)
  refine va_sld hx hb hX hbl hbA hS (by rw [hL]; exact vp_in_iff.mpr (by decide)) dL_law__587 ?_
  refine W.eq (g2 := F0 m 588 ls (.int (xs 1) :: .ref (a 0) :: [])) rfl ?_
  refine lv_aload_n hx hb dL_law__588 rfl (lv_at hl 1 rfl) ?_
  refine lv_iload hx hb dL_law__589 (lv_at hl 5 rfl) ?_
  refine lv_iconst (v := 2) hx hb dL_law__591 (by decide) ?_
  refine lv_iadd hx hb dL_law__592 ?_
  refine lv_topi (fun x_6 e_6 => ?_)
  obtain rfl : x_6 = 2 := e_6.trans (by decide)
  refine va_sld hx hb hX hbl hbA hS (by rw [hL]; exact vp_in_iff.mpr (by decide)) dL_law__593 ?_
  refine W.eq (g2 := F0 m 594 ls (.int (xs 2) :: .int (xs 1) :: .ref (a 0) :: [])) rfl ?_
  refine lv_aload_n hx hb dL_law__594 rfl (lv_at hl 1 rfl) ?_
  refine lv_iload hx hb dL_law__595 (lv_at hl 5 rfl) ?_
  refine lv_iconst (v := 3) hx hb dL_law__597 (by decide) ?_
  refine lv_iadd hx hb dL_law__598 ?_
  refine lv_topi (fun x_7 e_7 => ?_)
  obtain rfl : x_7 = 3 := e_7.trans (by decide)
  refine va_sld hx hb hX hbl hbA hS (by rw [hL]; exact vp_in_iff.mpr (by decide)) dL_law__599 ?_
  refine W.eq (g2 := F0 m 600 ls (.int (xs 3) :: .int (xs 2) :: .int (xs 1) :: .ref (a 0) :: [])) rfl ?_
  have hPc := hP.sub (ws' := [((a 0), .inr (12, zMo a zI0)), ((a 1), .inl (cI, 6792, .inl zI0))]) [0, 1] rfl
  have hDc := hD.sub (ws' := [((a 0), .inr (12, zMo a zI0)), ((a 1), .inl (cI, 6792, .inl zI0))]) [0, 1] (by decide) rfl
  have hKc := hK.sub (tys' := [(cI, .int)]) [2] rfl
  have hFc := va_free (wc := [((a 0), .inr (12, zMo a zI0)), ((a 1), .inl (cI, 6792, .inl zI0))]) hD hS hA [0, 1] rfl
  refine va_calli (va_runV (As := [.int (xs 1), .int (xs 2), .int (xs 3)]) (rest := []) ⟨hx, hb, hml, hown, ht⟩ (k_X12_part_ l _ D a cI (xs 1) (xs 2) (xs 3)) (cwV 3 ht (zG_V zw_1124 zw_1125 zw_1126 zw_2 zw_1127) rfl rfl rfl (by decide +kernel) ⟨Nat.le_of_ble_eq_true rfl, Nat.le_of_ble_eq_true rfl⟩) (zM_V (va_recv hK hP (ci := 12) (q0 := 0) rfl rfl) hPc hKc hDc) rfl rfl hl.1 rfl (lv_room (Nat.le_of_ble_eq_true rfl)) dL_law__600 ⟨Nat.le_of_ble_eq_true rfl, Nat.le_of_ble_eq_true rfl⟩) hS (fun q _ h => hFc q h) hFc (fun r_8 u_8 t H1 locs ht0 hvm hw_8 hB hz1 hk1 hS => ?_)
  obtain ⟨hP1, hK1, hD1⟩ := hB
  rw [ht0] at hP1
  have hK1 := va_K.moved hvm.symm hK1
  obtain ⟨hP, hD⟩ := va_join (wr := [(o, .inl (cL, 1, .inr (.inl g_4)))]) (w1 := [((a 0), .inr (12, zMo a u_8))]) hP hD [0, 1] [2] rfl rfl (by decide) (by decide) hk1 hFc hP1 hD1
  generalize H1 = H at hP hS ⊢
  have hP : va_P D vwCl [(o, .inl (cL, 1, .inr (.inl g_4))), ((a 0), .inr (12, zMo a u_8))] H := hP
  have hD : va_D A [(o, .inl (cL, 1, .inr (.inl g_4))), ((a 0), .inr (12, zMo a u_8))] := hD
  refine lv_istore (lv' := [(6, .int r_8), (5, .int r_4), (0, .ref b), (1, .ref (h 0)), (2, .ref (a 0)), (3, .ref o), (4, .int 0)]) hx hb dL_law__603 hl (by decide) rfl (fun ls hl => ?_)
  refine lv_aload_n hx hb dL_law__605 rfl (lv_at hl 4 rfl) ?_
  refine vp_callSi (va_runV (As := []) (rest := []) ⟨hx, hb, hml, hown, ht⟩ (k_X12_thrown l D a u_8) (cwV 0 ht (zG_V zw_779 zw_780 zw_781 zw_2 zw_782) rfl rfl rfl (by decide +kernel) ⟨Nat.le_of_ble_eq_true rfl, Nat.le_of_ble_eq_true rfl⟩) (zR_V (va_recv hK hP (ci := 12) (q0 := 1) rfl rfl) (hP.sub (ws' := [((a 0), .inr (12, zMo a u_8))]) [1] rfl) (hK.sub (tys' := []) [] rfl)) rfl rfl hl.1 rfl (lv_room (Nat.le_of_ble_eq_true rfl)) dL_law__606 ⟨Nat.le_of_ble_eq_true rfl, Nat.le_of_ble_eq_true rfl⟩).run (fun r_9 hw_9 => ?_)
  refine lv_iload hx hb dL_law__609 (lv_at hl 1 rfl) ?_
  refine lv_icmp_eq (tgt := 616) hx hb dL_law__611 (by decide) (fun c_10 => ?_) (fun c_10 => ?_)
  · skip
    simp only [fa_lt, fa_le, fa_eq, Int32.reduceToInt] at c_10
    refine lv_iload hx hb dL_law__616 (lv_at hl 1 rfl) ?_
    refine lv_if_ne (tgt := 633) hx hb dL_law__618 (by decide) (fun c_11 => ?_) (fun c_11 => ?_)
    · skip
      simp only [fa_lt, fa_le, fa_eq, Int32.reduceToInt] at c_11
      refine lv_goto (tgt := 3433) hx hb dL_law__633 (by decide) ?_
      refine W.widen (k := 2000) (n := 400000) (Nat.le_of_ble_eq_true rfl) (Nat.le_of_ble_eq_true rfl) ?_
      exact zlaw_end hx hb hml hr hown ht hlocks hX hbl hL hAe hS (lv_sub hl [2, 6] rfl)
    · skip
      simp only [fa_lt, fa_le, fa_eq, Int32.reduceToInt] at c_11
      refine lv_aload_n hx hb dL_law__621 rfl (lv_at hl 5 rfl) ?_
      refine lv_iconst (v := 0) hx hb dL_law__622 (by decide) ?_
      refine va_lald hx hb hK hP 0 1 rfl rfl (vp_in_iff.mpr (by decide)) dL_law__623 ?_
      refine W.eq (g2 := F0 m 624 ls (.long (g_4 0) :: [])) rfl ?_
      refine lv_iload hx hb dL_law__624 (lv_at hl 0 rfl) ?_
      refine lv_i2l (v := (r_8).toInt64) hx hb dL_law__626 rfl ?_
      refine W.lcmp hx hb dL_law__627 ?_
      refine lv_if_eq (tgt := 633) hx hb dL_law__628 (by decide) (fun c_12 => ?_) (fun c_12 => ?_)
      · skip
        refine lv_goto (tgt := 3433) hx hb dL_law__633 (by decide) ?_
        refine W.widen (k := 2000) (n := 400000) (Nat.le_of_ble_eq_true rfl) (Nat.le_of_ble_eq_true rfl) ?_
        exact zlaw_end hx hb hml hr hown ht hlocks hX hbl hL hAe hS (lv_sub hl [2, 6] rfl)
      · skip
        simp only [fa_lt, fa_le, fa_eq, Int32.reduceToInt] at c_12
        exfalso; exact c_12 (by rw [hg_4, ← (zF_part hw_8 hw_4).2 ((zF_part hw_8 hw_4).1.trans (Int32.toInt_inj.mp (show r_4.toInt = (0 : Int32).toInt by rw [c_11]; rfl)))]; rw [zcmp_self]; rfl)
  · skip
    simp only [fa_lt, fa_le, fa_eq, Int32.reduceToInt] at c_10
    exfalso; exact c_10 (by rw [hw_9, (zF_part hw_8 hw_4).1])
set_option maxHeartbeats 4000000 in
set_option maxRecDepth 100000 in
theorem zcase_meanLines {p : Program} {l : Launch} {e : Env} {s : State} {m : MethodId} {below : List Frame} {meth : Method} {c : Code} {b L : Nat} {xs : Nat → Int32} {A : Nat → Prop} (D : va_G) (h cs : Nat → Nat) (fn : Nat → Option Nat) (hn : ∀ k : Nat, k < 4 → fn k = some (h 8)) (a : Nat → Nat) (cI : ClassId) (o : Nat) (hx : p.tables.exec = Jvm.exec) (hb : c.code = code) (hml : c.maxLocals = 9) (hr : meth.sig.returnType = ret) (hown : s.vm.findClass RL = some m.cls) (ht : ∀ w ∈ zT, w.before #[Value.ref b] s = true) (hlocks : meth.locks = false) (hX : va_X b L xs s s.heap) (hbl : b < s.heap.size) (hL : L = 6) (hAe : ∀ q : Nat, A q ↔ s.heap.size ≤ q) (hl0 : l.stackTraces = false) (hEx : zEx A s) (hNc : zNc s) {H : Heap} {locs : List Loc} {ls : Array Slot} (hK : va_K D vwCl [((cs 0), .object RX0), (cI, .int)] s) (hP : va_P D vwCl [((h 0), .inr (11, [.ref (h 1), .ref (h 9), .int 0, .int 0, .ref (h 20), .ref (h 37), .int 0, .ref (h 38), .ref (h 42), .ref (h 43), .ref (h 44), .ref (h 45), .ref (h 46), .ref (h 47), .ref (h 48)])), ((h 1), .inr (8, [.ref (h 2), .int 0, .ref (h 3), .ref (h 4), .int 0, .ref (h 5), .int 0, .ref (h 6), .int 0, .ref (h 7), .int 0])), ((h 7), .inl ((cs 0), 4, .inr (.inr (.inr (.inr fn))))), ((h 8), .inr (0, [.ref (h 102), .ref (h 103), .int 0])), ((a 0), .inr (12, zMo a zI0)), ((a 1), .inl (cI, 6792, .inl zI0))] H) (hD : va_D A [((h 0), .inr (11, [.ref (h 1), .ref (h 9), .int 0, .int 0, .ref (h 20), .ref (h 37), .int 0, .ref (h 38), .ref (h 42), .ref (h 43), .ref (h 44), .ref (h 45), .ref (h 46), .ref (h 47), .ref (h 48)])), ((h 1), .inr (8, [.ref (h 2), .int 0, .ref (h 3), .ref (h 4), .int 0, .ref (h 5), .int 0, .ref (h 6), .int 0, .ref (h 7), .int 0])), ((h 7), .inl ((cs 0), 4, .inr (.inr (.inr (.inr fn))))), ((h 8), .inr (0, [.ref (h 102), .ref (h 103), .int 0])), ((a 0), .inr (12, zMo a zI0)), ((a 1), .inl (cI, 6792, .inl zI0))]) (hS : va_S A s.heap H locs) (hl : lv_has ls 9 [(0, .ref b), (1, .ref (h 0)), (2, .ref (a 0)), (3, .ref o), (4, .int 0)]) : W p l e room_1 s m #[Value.ref b] below meth c H locs 1192 188302 (lw_Z below #[Value.ref b] s) (F0 m 3322 ls []) := by
  have hbA : ¬ A b := fun h => Nat.not_le.mpr hbl ((hAe b).mp h)
  have hA : ∀ q : Nat, s.heap.size ≤ q → A q := fun q h => (hAe q).mpr h
  refine lv_aload_n hx hb dL_law__3322 rfl (lv_at hl 1 rfl) ?_
  have hPc := hP.sub (ws' := [((h 0), .inr (11, [.ref (h 1), .ref (h 9), .int 0, .int 0, .ref (h 20), .ref (h 37), .int 0, .ref (h 38), .ref (h 42), .ref (h 43), .ref (h 44), .ref (h 45), .ref (h 46), .ref (h 47), .ref (h 48)])), ((h 1), .inr (8, [.ref (h 2), .int 0, .ref (h 3), .ref (h 4), .int 0, .ref (h 5), .int 0, .ref (h 6), .int 0, .ref (h 7), .int 0])), ((h 7), .inl ((cs 0), 4, .inr (.inr (.inr (.inr fn))))), ((h 8), .inr (0, [.ref (h 102), .ref (h 103), .int 0]))]) [0, 1, 2, 3] rfl
  have hDc := hD.sub (ws' := [((h 0), .inr (11, [.ref (h 1), .ref (h 9), .int 0, .int 0, .ref (h 20), .ref (h 37), .int 0, .ref (h 38), .ref (h 42), .ref (h 43), .ref (h 44), .ref (h 45), .ref (h 46), .ref (h 47), .ref (h 48)])), ((h 1), .inr (8, [.ref (h 2), .int 0, .ref (h 3), .ref (h 4), .int 0, .ref (h 5), .int 0, .ref (h 6), .int 0, .ref (h 7), .int 0])), ((h 7), .inl ((cs 0), 4, .inr (.inr (.inr (.inr fn))))), ((h 8), .inr (0, [.ref (h 102), .ref (h 103), .int 0]))]) [0, 1, 2, 3] (by decide) rfl
  have hKc := hK.sub (tys' := [((cs 0), .object RX0)]) [0] rfl
  have hFc := va_free (wc := [((h 0), .inr (11, [.ref (h 1), .ref (h 9), .int 0, .int 0, .ref (h 20), .ref (h 37), .int 0, .ref (h 38), .ref (h 42), .ref (h 43), .ref (h 44), .ref (h 45), .ref (h 46), .ref (h 47), .ref (h 48)])), ((h 1), .inr (8, [.ref (h 2), .int 0, .ref (h 3), .ref (h 4), .int 0, .ref (h 5), .int 0, .ref (h 6), .int 0, .ref (h 7), .int 0])), ((h 7), .inl ((cs 0), 4, .inr (.inr (.inr (.inr fn))))), ((h 8), .inr (0, [.ref (h 102), .ref (h 103), .int 0]))]) hD hS hA [0, 1, 2, 3] rfl
  refine va_calld (va_runV (As := []) (rest := []) ⟨hx, hb, hml, hown, ht⟩ (k_X11_meanLines l _ D h cs fn hn) (cwV 0 ht (zG_V zw_1128 zw_1129 zw_1130 zw_404 zw_1131) rfl rfl rfl (by decide +kernel) ⟨Nat.le_of_ble_eq_true rfl, Nat.le_of_ble_eq_true rfl⟩) (zM_V (va_recv hK hP (ci := 11) (q0 := 0) rfl rfl) hPc hKc hDc) rfl rfl hl.1 rfl (lv_room (Nat.le_of_ble_eq_true rfl)) dL_law__3323 ⟨Nat.le_of_ble_eq_true rfl, Nat.le_of_ble_eq_true rfl⟩) hS (fun q _ h => hFc q h) hFc (fun r_1 u_1 t H1 locs ht0 hvm hw_1 hB hz1 hk1 hS => ?_)
  obtain ⟨hP1, hK1, hD1⟩ := hB
  rw [ht0] at hP1
  have hK1 := va_K.moved hvm.symm hK1
  obtain ⟨hP, hD⟩ := va_join (wr := [((a 0), .inr (12, zMo a zI0)), ((a 1), .inl (cI, 6792, .inl zI0))]) (w1 := []) hP hD [0, 1, 2, 3] [4, 5] rfl rfl (by decide) (by decide) hk1 hFc hP1 hD1
  generalize H1 = H at hP hS ⊢
  have hP : va_P D vwCl [((a 0), .inr (12, zMo a zI0)), ((a 1), .inl (cI, 6792, .inl zI0))] H := hP
  have hD : va_D A [((a 0), .inr (12, zMo a zI0)), ((a 1), .inl (cI, 6792, .inl zI0))] := hD
  obtain rfl : r_1 = FP.dconst0 := hw_1
  refine lv_dstore (lv' := [(5, .double FP.dconst0), (0, .ref b), (1, .ref (h 0)), (2, .ref (a 0)), (3, .ref o), (4, .int 0)]) hx hb dL_law__3326 hl (by decide) rfl (fun ls hl => ?_)
  refine lv_aload_n hx hb dL_law__3328 rfl (lv_at hl 3 rfl) ?_
  have hPc := hP.sub (ws' := [((a 0), .inr (12, zMo a zI0)), ((a 1), .inl (cI, 6792, .inl zI0))]) [0, 1] rfl
  have hDc := hD.sub (ws' := [((a 0), .inr (12, zMo a zI0)), ((a 1), .inl (cI, 6792, .inl zI0))]) [0, 1] (by decide) rfl
  have hKc := hK.sub (tys' := [(cI, .int)]) [1] rfl
  have hFc := va_free (wc := [((a 0), .inr (12, zMo a zI0)), ((a 1), .inl (cI, 6792, .inl zI0))]) hD hS hA [0, 1] rfl
  refine va_calld (va_runV (As := []) (rest := []) ⟨hx, hb, hml, hown, ht⟩ (k_X12_meanLines l _ D a cI) (cwV 0 ht (zG_V zw_1132 zw_1133 zw_1134 zw_2 zw_1135) rfl rfl rfl (by decide +kernel) ⟨Nat.le_of_ble_eq_true rfl, Nat.le_of_ble_eq_true rfl⟩) (zM_V (va_recv hK hP (ci := 12) (q0 := 0) rfl rfl) hPc hKc hDc) rfl rfl hl.1 rfl (lv_room (Nat.le_of_ble_eq_true rfl)) dL_law__3329 ⟨Nat.le_of_ble_eq_true rfl, Nat.le_of_ble_eq_true rfl⟩) hS (fun q _ h => hFc q h) hFc (fun r_2 u_2 t H1 locs ht0 hvm hw_2 hB hz1 hk1 hS => ?_)
  obtain ⟨hP1, hK1, hD1⟩ := hB
  rw [ht0] at hP1
  have hK1 := va_K.moved hvm.symm hK1
  obtain ⟨hP, hD⟩ := va_join (wr := []) (w1 := []) hP hD [0, 1] [] rfl rfl (by decide) (by decide) hk1 hFc hP1 hD1
  generalize H1 = H at hP hS ⊢
  have hP : va_P D vwCl [] H := hP
  have hD : va_D A [] := hD
  obtain rfl : r_2 = FP.dconst0 := hw_2
  refine lv_dstore (lv' := [(7, .double FP.dconst0), (5, .double FP.dconst0), (0, .ref b), (1, .ref (h 0)), (2, .ref (a 0)), (3, .ref o), (4, .int 0)]) hx hb dL_law__3332 hl (by decide) rfl (fun ls hl => ?_)
  refine lv_dload hx hb dL_law__3334 (lv_at hl 1 rfl) ?_
  refine lv_dload hx hb dL_law__3336 (lv_at hl 0 rfl) ?_
  refine lv_dcmp hx hb dL_law__3338 ?_
  refine W.eq (g2 := F0 m 3339 ls (.int 0 :: [])) (by rw [show Op.cmpValue (FP.dcmp FP.dconst0 FP.dconst0) .l = 0 by decide +kernel]) ?_
  refine lv_if_eq (tgt := 3360) hx hb dL_law__3339 (by decide) (fun c_3 => ?_) (fun c_3 => ?_)
  · skip
    refine lv_goto (tgt := 3433) hx hb dL_law__3360 (by decide) ?_
    refine W.widen (k := 2000) (n := 400000) (Nat.le_of_ble_eq_true rfl) (Nat.le_of_ble_eq_true rfl) ?_
    exact zlaw_end hx hb hml hr hown ht hlocks hX hbl hL hAe hS (lv_sub hl [2, 6] rfl)
  · skip
    exact absurd c_3 (by decide)
set_option maxHeartbeats 4000000 in
set_option maxRecDepth 100000 in
theorem zcase_provedShare {p : Program} {l : Launch} {e : Env} {s : State} {m : MethodId} {below : List Frame} {meth : Method} {c : Code} {b L : Nat} {xs : Nat → Int32} {A : Nat → Prop} (D : va_G) (h cs : Nat → Nat) (a : Nat → Nat) (cI : ClassId) (o : Nat) (hx : p.tables.exec = Jvm.exec) (hb : c.code = code) (hml : c.maxLocals = 9) (hr : meth.sig.returnType = ret) (hown : s.vm.findClass RL = some m.cls) (ht : ∀ w ∈ zT, w.before #[Value.ref b] s = true) (hlocks : meth.locks = false) (hX : va_X b L xs s s.heap) (hbl : b < s.heap.size) (hL : L = 6) (hAe : ∀ q : Nat, A q ↔ s.heap.size ≤ q) (hl0 : l.stackTraces = false) (hEx : zEx A s) (hNc : zNc s) {H : Heap} {locs : List Loc} {ls : Array Slot} (hK : va_K D vwCl [((cs 4), .object RX4), (cI, .int)] s) (hP : va_P D vwCl [((h 0), .inr (11, [.ref (h 1), .ref (h 9), .int 0, .int 0, .ref (h 20), .ref (h 37), .int 0, .ref (h 38), .ref (h 42), .ref (h 43), .ref (h 44), .ref (h 45), .ref (h 46), .ref (h 47), .ref (h 48)])), ((h 1), .inr (8, [.ref (h 2), .int 0, .ref (h 3), .ref (h 4), .int 0, .ref (h 5), .int 0, .ref (h 6), .int 0, .ref (h 7), .int 0])), ((h 4), .inl ((cs 4), 100, .inr (.inr (.inr (.inr (fun _ => none)))))), ((a 0), .inr (12, zMo a zI0)), ((a 1), .inl (cI, 6792, .inl zI0))] H) (hD : va_D A [((h 0), .inr (11, [.ref (h 1), .ref (h 9), .int 0, .int 0, .ref (h 20), .ref (h 37), .int 0, .ref (h 38), .ref (h 42), .ref (h 43), .ref (h 44), .ref (h 45), .ref (h 46), .ref (h 47), .ref (h 48)])), ((h 1), .inr (8, [.ref (h 2), .int 0, .ref (h 3), .ref (h 4), .int 0, .ref (h 5), .int 0, .ref (h 6), .int 0, .ref (h 7), .int 0])), ((h 4), .inl ((cs 4), 100, .inr (.inr (.inr (.inr (fun _ => none)))))), ((a 0), .inr (12, zMo a zI0)), ((a 1), .inl (cI, 6792, .inl zI0))]) (hS : va_S A s.heap H locs) (hl : lv_has ls 9 [(0, .ref b), (1, .ref (h 0)), (2, .ref (a 0)), (3, .ref o), (4, .int 0)]) : W p l e room_1 s m #[Value.ref b] below meth c H locs 1192 188302 (lw_Z below #[Value.ref b] s) (F0 m 3363 ls []) := by
  have hbA : ¬ A b := fun h => Nat.not_le.mpr hbl ((hAe b).mp h)
  have hA : ∀ q : Nat, s.heap.size ≤ q → A q := fun q h => (hAe q).mpr h
  refine lv_aload_n hx hb dL_law__3363 rfl (lv_at hl 1 rfl) ?_
  have hPc := hP.sub (ws' := [((h 0), .inr (11, [.ref (h 1), .ref (h 9), .int 0, .int 0, .ref (h 20), .ref (h 37), .int 0, .ref (h 38), .ref (h 42), .ref (h 43), .ref (h 44), .ref (h 45), .ref (h 46), .ref (h 47), .ref (h 48)])), ((h 1), .inr (8, [.ref (h 2), .int 0, .ref (h 3), .ref (h 4), .int 0, .ref (h 5), .int 0, .ref (h 6), .int 0, .ref (h 7), .int 0])), ((h 4), .inl ((cs 4), 100, .inr (.inr (.inr (.inr (fun _ => none))))))]) [0, 1, 2] rfl
  have hDc := hD.sub (ws' := [((h 0), .inr (11, [.ref (h 1), .ref (h 9), .int 0, .int 0, .ref (h 20), .ref (h 37), .int 0, .ref (h 38), .ref (h 42), .ref (h 43), .ref (h 44), .ref (h 45), .ref (h 46), .ref (h 47), .ref (h 48)])), ((h 1), .inr (8, [.ref (h 2), .int 0, .ref (h 3), .ref (h 4), .int 0, .ref (h 5), .int 0, .ref (h 6), .int 0, .ref (h 7), .int 0])), ((h 4), .inl ((cs 4), 100, .inr (.inr (.inr (.inr (fun _ => none))))))]) [0, 1, 2] (by decide) rfl
  have hKc := hK.sub (tys' := [((cs 4), .object RX4)]) [0] rfl
  have hFc := va_free (wc := [((h 0), .inr (11, [.ref (h 1), .ref (h 9), .int 0, .int 0, .ref (h 20), .ref (h 37), .int 0, .ref (h 38), .ref (h 42), .ref (h 43), .ref (h 44), .ref (h 45), .ref (h 46), .ref (h 47), .ref (h 48)])), ((h 1), .inr (8, [.ref (h 2), .int 0, .ref (h 3), .ref (h 4), .int 0, .ref (h 5), .int 0, .ref (h 6), .int 0, .ref (h 7), .int 0])), ((h 4), .inl ((cs 4), 100, .inr (.inr (.inr (.inr (fun _ => none))))))]) hD hS hA [0, 1, 2] rfl
  refine va_callf (va_runV (As := []) (rest := []) ⟨hx, hb, hml, hown, ht⟩ (k_X11_provedShare l _ D h cs) (cwV 0 ht (zG_V zw_1136 zw_1137 zw_1138 zw_404 zw_1139) rfl rfl rfl (by decide +kernel) ⟨Nat.le_of_ble_eq_true rfl, Nat.le_of_ble_eq_true rfl⟩) (zM_V (va_recv hK hP (ci := 11) (q0 := 0) rfl rfl) hPc hKc hDc) rfl rfl hl.1 rfl (lv_room (Nat.le_of_ble_eq_true rfl)) dL_law__3364 ⟨Nat.le_of_ble_eq_true rfl, Nat.le_of_ble_eq_true rfl⟩) hS (fun q _ h => hFc q h) hFc (fun r_1 u_1 t H1 locs ht0 hvm hw_1 hB hz1 hk1 hS => ?_)
  obtain ⟨hP1, hK1, hD1⟩ := hB
  rw [ht0] at hP1
  have hK1 := va_K.moved hvm.symm hK1
  obtain ⟨hP, hD⟩ := va_join (wr := [((a 0), .inr (12, zMo a zI0)), ((a 1), .inl (cI, 6792, .inl zI0))]) (w1 := []) hP hD [0, 1, 2] [3, 4] rfl rfl (by decide) (by decide) hk1 hFc hP1 hD1
  generalize H1 = H at hP hS ⊢
  have hP : va_P D vwCl [((a 0), .inr (12, zMo a zI0)), ((a 1), .inl (cI, 6792, .inl zI0))] H := hP
  have hD : va_D A [((a 0), .inr (12, zMo a zI0)), ((a 1), .inl (cI, 6792, .inl zI0))] := hD
  obtain rfl : r_1 = FP.fconst0 := hw_1
  refine lv_f2d hx hb dL_law__3367 (by unfold vf_n64; decide +kernel) ?_
  refine lv_dstore (lv' := [(5, .double (FP.f2d FP.fconst0)), (0, .ref b), (1, .ref (h 0)), (2, .ref (a 0)), (3, .ref o), (4, .int 0)]) hx hb dL_law__3368 hl (by decide) rfl (fun ls hl => ?_)
  refine lv_aload_n hx hb dL_law__3370 rfl (lv_at hl 3 rfl) ?_
  have hPc := hP.sub (ws' := [((a 0), .inr (12, zMo a zI0)), ((a 1), .inl (cI, 6792, .inl zI0))]) [0, 1] rfl
  have hDc := hD.sub (ws' := [((a 0), .inr (12, zMo a zI0)), ((a 1), .inl (cI, 6792, .inl zI0))]) [0, 1] (by decide) rfl
  have hKc := hK.sub (tys' := [(cI, .int)]) [1] rfl
  have hFc := va_free (wc := [((a 0), .inr (12, zMo a zI0)), ((a 1), .inl (cI, 6792, .inl zI0))]) hD hS hA [0, 1] rfl
  refine va_callf (va_runV (As := []) (rest := []) ⟨hx, hb, hml, hown, ht⟩ (k_X12_provedShare l _ D a cI) (cwV 0 ht (zG_V zw_1140 zw_1141 zw_1142 zw_2 zw_1143) rfl rfl rfl (by decide +kernel) ⟨Nat.le_of_ble_eq_true rfl, Nat.le_of_ble_eq_true rfl⟩) (zM_V (va_recv hK hP (ci := 12) (q0 := 0) rfl rfl) hPc hKc hDc) rfl rfl hl.1 rfl (lv_room (Nat.le_of_ble_eq_true rfl)) dL_law__3371 ⟨Nat.le_of_ble_eq_true rfl, Nat.le_of_ble_eq_true rfl⟩) hS (fun q _ h => hFc q h) hFc (fun r_2 u_2 t H1 locs ht0 hvm hw_2 hB hz1 hk1 hS => ?_)
  obtain ⟨hP1, hK1, hD1⟩ := hB
  rw [ht0] at hP1
  have hK1 := va_K.moved hvm.symm hK1
  obtain ⟨hP, hD⟩ := va_join (wr := []) (w1 := []) hP hD [0, 1] [] rfl rfl (by decide) (by decide) hk1 hFc hP1 hD1
  generalize H1 = H at hP hS ⊢
  have hP : va_P D vwCl [] H := hP
  have hD : va_D A [] := hD
  obtain rfl : r_2 = FP.fconst0 := hw_2
  refine lv_f2d hx hb dL_law__3374 (by unfold vf_n64; decide +kernel) ?_
  refine lv_dstore (lv' := [(7, .double (FP.f2d FP.fconst0)), (5, .double (FP.f2d FP.fconst0)), (0, .ref b), (1, .ref (h 0)), (2, .ref (a 0)), (3, .ref o), (4, .int 0)]) hx hb dL_law__3375 hl (by decide) rfl (fun ls hl => ?_)
  refine lv_dload hx hb dL_law__3377 (lv_at hl 1 rfl) ?_
  refine lv_dload hx hb dL_law__3379 (lv_at hl 0 rfl) ?_
  refine lv_dcmp hx hb dL_law__3381 ?_
  refine W.eq (g2 := F0 m 3382 ls (.int 0 :: [])) (by rw [show Op.cmpValue (FP.dcmp (FP.f2d FP.fconst0) (FP.f2d FP.fconst0)) .l = 0 by decide +kernel]) ?_
  refine lv_if_eq (tgt := 3403) hx hb dL_law__3382 (by decide) (fun c_3 => ?_) (fun c_3 => ?_)
  · skip
    refine lv_goto (tgt := 3433) hx hb dL_law__3403 (by decide) ?_
    refine W.widen (k := 2000) (n := 400000) (Nat.le_of_ble_eq_true rfl) (Nat.le_of_ble_eq_true rfl) ?_
    exact zlaw_end hx hb hml hr hown ht hlocks hX hbl hL hAe hS (lv_sub hl [2, 6] rfl)
  · skip
    exact absurd c_3 (by decide)
