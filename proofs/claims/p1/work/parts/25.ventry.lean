theorem zw_762 : Cond.classLink RL 8 RX11 ∈ zT := zT_of 24 (by decide +kernel) (by decide +kernel)
theorem dL_law__0 : decode cL_law_ 0 = .ok (.new 8, 3) := by decide +kernel
theorem dL_law__3 : decode cL_law_ 3 = .ok (.dup, 1) := by decide +kernel
theorem zw_763 : Cond.code yX11_init cX11_init 2 none ∈ zT := zT_of 28 (by decide +kernel) (by decide +kernel)
theorem zw_764 : Cond.methodLink RL 151 yX11_init ∈ zT := zT_of 26 (by decide +kernel) (by decide +kernel)
theorem zw_765 : Cond.instanceMethod yX11_init ∈ zT := zT_of 27 (by decide +kernel) (by decide +kernel)
theorem dL_law__4 : decode cL_law_ 4 = .ok (.invokespecial 151, 3) := by decide +kernel
theorem dL_law__7 : decode cL_law_ 7 = .ok (.astore_n 1, 1) := by decide +kernel
theorem zw_766 : Cond.classLink RL 152 RX12 ∈ zT := zT_of 1480 (by decide +kernel) (by decide +kernel)
theorem dL_law__8 : decode cL_law_ 8 = .ok (.new 152, 3) := by decide +kernel
theorem dL_law__11 : decode cL_law_ 11 = .ok (.dup, 1) := by decide +kernel
theorem zw_767 : Cond.code yX12_init cX12_init 1 none ∈ zT := zT_of 1484 (by decide +kernel) (by decide +kernel)
theorem zw_768 : Cond.methodLink RL 154 yX12_init ∈ zT := zT_of 1482 (by decide +kernel) (by decide +kernel)
theorem zw_769 : Cond.instanceMethod yX12_init ∈ zT := zT_of 1483 (by decide +kernel) (by decide +kernel)
theorem dL_law__12 : decode cL_law_ 12 = .ok (.invokespecial 154, 3) := by decide +kernel
theorem dL_law__15 : decode cL_law_ 15 = .ok (.astore_n 2, 1) := by decide +kernel
theorem dL_law__16 : decode cL_law_ 16 = .ok (.iconst 1, 1) := by decide +kernel
theorem zw_770 : Cond.arrayClass .long ∈ zT := zT_of 2107 (by decide +kernel) (by decide +kernel)
theorem dL_law__17 : decode cL_law_ 17 = .ok (.newarray .long, 2) := by decide +kernel
theorem dL_law__19 : decode cL_law_ 19 = .ok (.astore_n 3, 1) := by decide +kernel
theorem dL_law__20 : decode cL_law_ 20 = .ok (.iconst 0, 1) := by decide +kernel
theorem dL_law__21 : decode cL_law_ 21 = .ok (.istore 4, 2) := by decide +kernel
set_option maxHeartbeats 4000000 in
set_option maxRecDepth 100000 in
theorem zentry {p : Program} {l : Launch} {e : Env} {s : State} {m : MethodId} {below : List Frame} {meth : Method} {c : Code} {b L : Nat} {xs : Nat → Int32} {A : Nat → Prop} (D : va_G) (hKn : ∀ (k : Nat) (q : vw_C), vwCl[k]? = some q → u_Kn s q.1 q.2.1 q.2.2 (D.1 k) (D.2 k)) (hx : p.tables.exec = Jvm.exec) (hb : c.code = code) (hml : c.maxLocals = 9) (hr : meth.sig.returnType = ret) (hown : s.vm.findClass RL = some m.cls) (ht : ∀ w ∈ zT, w.before #[Value.ref b] s = true) (hlocks : meth.locks = false) (hX : va_X b L xs s s.heap) (hbl : b < s.heap.size) (hAe : ∀ q : Nat, A q ↔ s.heap.size ≤ q) (hEx : zEx A s) {ls : Array Slot} (hl : lv_has ls 9 [(0, .ref b)]) (kk : ∀ (h cs : Nat → Nat) (fn fp f0 fi f1 f2 : Nat → Option Nat) (hn : ∀ k : Nat, k < 4 → fn k = some (h 8)) (hp : fp 0 = some (h 10)) (hi0 : fi 0 = some (h 21)) (hi1 : fi 1 = some (h 29)) (a : Nat → Nat) (cI cJ cZ : ClassId) (fa fb : Nat → Option Nat) (ha : fa 0 = some (a 30)) (hb0 : fb 0 = some (a 31)) (hb1 : fb 1 = some (a 32)) (o : Nat) (cL : ClassId) (H : Heap) (locs : List Loc) (ls : Array Slot), va_K D vwCl [((cs 7), .object RX7), ((cs 9), .object RX9), ((cs 4), .object RX4), ((cs 2), .object RX2), ((cs 0), .object RX0), ((cs 8), .object RX8), ((cs 13), .int), ((cs 14), .boolean), (cI, .int), (cJ, .array .int), (cZ, .boolean), (cL, .long)] s → va_P D vwCl ([((a 0), .inr (12, zMo a zI0)), ((a 1), .inl (cI, 6792, .inl zI0)), ((a 2), .inl (cJ, 8, .inr (.inr (.inr (.inr fa))))), ((a 30), .inl (cI, 6792, .inl zI0)), ((a 3), .inl (cJ, 2, .inr (.inr (.inr (.inr fb))))), ((a 31), .inl (cI, 6792, .inl zI0)), ((a 32), .inl (cI, 6792, .inl zI0)), ((a 4), .inl (cZ, 2, .inl zI0)), ((a 6), .inl (cI, 200, .inl zI0)), ((a 10), .inl (cI, 41, .inl zI0)), (o, .inl (cL, 1, .inr (.inl (fun _ => 0))))] ++ (zFW h cs fn fp f0 fi f1 f2)) H → va_D A ([((a 0), .inr (12, zMo a zI0)), ((a 1), .inl (cI, 6792, .inl zI0)), ((a 2), .inl (cJ, 8, .inr (.inr (.inr (.inr fa))))), ((a 30), .inl (cI, 6792, .inl zI0)), ((a 3), .inl (cJ, 2, .inr (.inr (.inr (.inr fb))))), ((a 31), .inl (cI, 6792, .inl zI0)), ((a 32), .inl (cI, 6792, .inl zI0)), ((a 4), .inl (cZ, 2, .inl zI0)), ((a 6), .inl (cI, 200, .inl zI0)), ((a 10), .inl (cI, 41, .inl zI0)), (o, .inl (cL, 1, .inr (.inl (fun _ => 0))))] ++ (zFW h cs fn fp f0 fi f1 f2)) → va_S A s.heap H locs → lv_has ls 9 [(0, .ref b), (1, .ref (h 0)), (2, .ref (a 0)), (3, .ref o), (4, .int 0)] → W p l e room_1 s m #[Value.ref b] below meth c H locs 1192 188302 (lw_Z below #[Value.ref b] s) (F0 m 23 ls [])) : W p l e room_1 s m #[Value.ref b] below meth c s.heap [] 0 0 (lw_Z below #[Value.ref b] s) (F0 m 0 ls []) := by
  have hA : ∀ q : Nat, s.heap.size ≤ q → A q := fun q h => (hAe q).mpr h
  have hS : va_S A s.heap s.heap [] := va_S.rf
  have hK : va_K D vwCl [] s := ⟨hKn, fun k q h => by simp at h⟩
  have hP : va_P D vwCl [] s.heap := zP_nil
  have hD : va_D A [] := zD_nil
  refine va_new (ci := 11) (fs := [.null, .null, .int 0, .int 0, .null, .null, .int 0, .null, .null, .null, .null, .null, .null, .null, .null]) (C := RX11) (T := TX11) (N := 15) hx hb ht zinX11 tyX11 tyX11_ok hown (ht _ zw_762) (ht _ zw_760) (ht _ zw_404) hK hP hD hS hA rfl (fun j hj => by rcases (show j = 0 ∨ j = 1 ∨ j = 2 ∨ j = 3 ∨ j = 4 ∨ j = 5 ∨ j = 6 ∨ j = 7 ∨ j = 8 ∨ j = 9 ∨ j = 10 ∨ j = 11 ∨ j = 12 ∨ j = 13 ∨ j = 14 by omega) with rfl | rfl | rfl | rfl | rfl | rfl | rfl | rfl | rfl | rfl | rfl | rfl | rfl | rfl | rfl <;> rfl) (Nat.le_of_ble_eq_true rfl) (Nat.le_of_ble_eq_true rfl) dL_law__0 (fun q_1 H hP hD hS => ?_)
  have hP : va_P D vwCl [(q_1, .inr (11, [.null, .null, .int 0, .int 0, .null, .null, .int 0, .null, .null, .null, .null, .null, .null, .null, .null]))] H := hP
  have hD : va_D A [(q_1, .inr (11, [.null, .null, .int 0, .int 0, .null, .null, .int 0, .null, .null, .null, .null, .null, .null, .null, .null]))] := hD
  refine W.widen (k := 1) (n := 15) (Nat.le_of_ble_eq_true rfl) (Nat.le_of_ble_eq_true rfl) ?_
  refine lv_dup hx hb dL_law__3 rfl ?_
  have hPc := hP.sub (ws' := [(q_1, .inr (11, [.null, .null, .int 0, .int 0, .null, .null, .int 0, .null, .null, .null, .null, .null, .null, .null, .null]))]) [0] rfl
  have hDc := hD.sub (ws' := [(q_1, .inr (11, [.null, .null, .int 0, .int 0, .null, .null, .int 0, .null, .null, .null, .null, .null, .null, .null, .null]))]) [0] (by decide) rfl
  have hKc := hK.sub (tys' := []) [] rfl
  have hFc := va_free (wc := [(q_1, .inr (11, [.null, .null, .int 0, .int 0, .null, .null, .int 0, .null, .null, .null, .null, .null, .null, .null, .null]))]) hD hS hA [0] rfl
  refine va_callv (va_runI (As := []) (rest := [.ref q_1]) ⟨hx, hb, hml, hown, ht⟩ (k_X11_init l _ D q_1) (cwI 0 ht (zG zw_763) rfl rfl rfl (ht _ zw_404) (ht _ zw_764) (ht _ zw_765) rfl (by decide +kernel) ⟨Nat.le_of_ble_eq_true rfl, Nat.le_of_ble_eq_true rfl⟩) (zXw_I (fun _ _ => zTab.warm) hEx.1 hPc hKc hDc) rfl rfl hl.1 rfl (lv_room (Nat.le_of_ble_eq_true rfl)) dL_law__4 ⟨Nat.le_of_ble_eq_true rfl, Nat.le_of_ble_eq_true rfl⟩) hS (fun q _ h => hFc q h) hFc (fun u_2 t H1 locs ht0 hvm hw_2 hB hz1 hk1 hS => ?_)
  obtain ⟨h, cs, fn, fp, f0, fi, f1, f2, hq0, ⟨hn, hp, -, hi0, hi1, -, -⟩, hP1, hK1, hD1⟩ := hB
  rw [ht0] at hP1
  have hK1 := va_K.moved hvm.symm hK1
  obtain ⟨hP, hD⟩ := va_join (wr := []) (w1 := zFW h cs fn fp f0 fi f1 f2) hP hD [0] [] rfl rfl (by decide) (by decide) hk1 hFc hP1 hD1
  have hK := hK.app hK1
  generalize H1 = H at hP hS ⊢
  have hP : va_P D vwCl ([] ++ (zFW h cs fn fp f0 fi f1 f2)) H := hP
  have hD : va_D A ([] ++ (zFW h cs fn fp f0 fi f1 f2)) := hD
  have hK : va_K D vwCl [((cs 7), .object RX7), ((cs 9), .object RX9), ((cs 4), .object RX4), ((cs 2), .object RX2), ((cs 0), .object RX0), ((cs 8), .object RX8), ((cs 13), .int), ((cs 14), .boolean)] s := hK
  refine W.eq (g2 := F0 m 7 ls (.ref (h 0) :: [])) (by rw [hq0]) ?_
  refine W.widen (k := 162) (n := 65922) (Nat.le_of_ble_eq_true rfl) (Nat.le_of_ble_eq_true rfl) ?_
  refine lv_astore_n (lv' := [(1, .ref (h 0)), (0, .ref b)]) hx hb dL_law__7 rfl hl (by decide) rfl (fun ls hl => ?_)
  refine va_new (ci := 12) (fs := [.int 0, .null, .null, .null, .null, .int 0, .null, .int 0, .int 0, .int 0, .null, .null, .int 0, .null, .int 0, .int 0, .int 0, .int 0, .null, .null, .null, .null, .null, .int 0, .int 0]) (C := RX12) (T := TX12) (N := 25) hx hb ht zinX12 tyX12 tyX12_ok hown (ht _ zw_766) (ht _ zw_761) (ht _ zw_2) hK hP hD hS hA rfl (fun j hj => by rcases (show j = 0 ∨ j = 1 ∨ j = 2 ∨ j = 3 ∨ j = 4 ∨ j = 5 ∨ j = 6 ∨ j = 7 ∨ j = 8 ∨ j = 9 ∨ j = 10 ∨ j = 11 ∨ j = 12 ∨ j = 13 ∨ j = 14 ∨ j = 15 ∨ j = 16 ∨ j = 17 ∨ j = 18 ∨ j = 19 ∨ j = 20 ∨ j = 21 ∨ j = 22 ∨ j = 23 ∨ j = 24 by omega) with rfl | rfl | rfl | rfl | rfl | rfl | rfl | rfl | rfl | rfl | rfl | rfl | rfl | rfl | rfl | rfl | rfl | rfl | rfl | rfl | rfl | rfl | rfl | rfl | rfl <;> rfl) (Nat.le_of_ble_eq_true rfl) (Nat.le_of_ble_eq_true rfl) dL_law__8 (fun q_3 H hP hD hS => ?_)
  have hP := va_P.swap hP
  have hD := va_D.swap hD
  have hP : va_P D vwCl ([(q_3, .inr (12, [.int 0, .null, .null, .null, .null, .int 0, .null, .int 0, .int 0, .int 0, .null, .null, .int 0, .null, .int 0, .int 0, .int 0, .int 0, .null, .null, .null, .null, .null, .int 0, .int 0]))] ++ (zFW h cs fn fp f0 fi f1 f2)) H := hP
  have hD : va_D A ([(q_3, .inr (12, [.int 0, .null, .null, .null, .null, .int 0, .null, .int 0, .int 0, .int 0, .null, .null, .int 0, .null, .int 0, .int 0, .int 0, .int 0, .null, .null, .null, .null, .null, .int 0, .int 0]))] ++ (zFW h cs fn fp f0 fi f1 f2)) := hD
  refine W.widen (k := 163) (n := 65947) (Nat.le_of_ble_eq_true rfl) (Nat.le_of_ble_eq_true rfl) ?_
  refine lv_dup hx hb dL_law__11 rfl ?_
  have hPc := hP.sub (ws' := [(q_3, .inr (12, [.int 0, .null, .null, .null, .null, .int 0, .null, .int 0, .int 0, .int 0, .null, .null, .int 0, .null, .int 0, .int 0, .int 0, .int 0, .null, .null, .null, .null, .null, .int 0, .int 0]))]) [0] rfl
  have hDc := hD.sub (ws' := [(q_3, .inr (12, [.int 0, .null, .null, .null, .null, .int 0, .null, .int 0, .int 0, .int 0, .null, .null, .int 0, .null, .int 0, .int 0, .int 0, .int 0, .null, .null, .null, .null, .null, .int 0, .int 0]))]) [0] (by decide) rfl
  have hKc := hK.sub (tys' := []) [] rfl
  have hFc := va_free (wc := [(q_3, .inr (12, [.int 0, .null, .null, .null, .null, .int 0, .null, .int 0, .int 0, .int 0, .null, .null, .int 0, .null, .int 0, .int 0, .int 0, .int 0, .null, .null, .null, .null, .null, .int 0, .int 0]))]) hD hS hA [0] rfl
  refine va_callv (va_runI (As := []) (rest := [.ref q_3]) ⟨hx, hb, hml, hown, ht⟩ (k_X12_init l _ D q_3) (cwI 0 ht (zG zw_767) rfl rfl rfl (ht _ zw_2) (ht _ zw_768) (ht _ zw_769) rfl (by decide +kernel) ⟨Nat.le_of_ble_eq_true rfl, Nat.le_of_ble_eq_true rfl⟩) (zX_I (fun _ _ q q2 => q2.moved q) hEx.1.2.2.1 hPc hKc hDc) rfl rfl hl.1 rfl (lv_room (Nat.le_of_ble_eq_true rfl)) dL_law__12 ⟨Nat.le_of_ble_eq_true rfl, Nat.le_of_ble_eq_true rfl⟩) hS (fun q _ h => hFc q h) hFc (fun u_4 t H1 locs ht0 hvm hw_4 hB hz1 hk1 hS => ?_)
  obtain ⟨a, cI, cJ, cZ, fa, fb, ha0, ha, hb0, hb1, hP1, hK1, hD1⟩ := hB
  rw [ht0] at hP1
  have hK1 := va_K.moved hvm.symm hK1
  obtain ⟨hP, hD⟩ := va_joinQ (wr := []) (w1 := [((a 0), .inr (12, zMo a zI0)), ((a 1), .inl (cI, 6792, .inl zI0)), ((a 2), .inl (cJ, 8, .inr (.inr (.inr (.inr fa))))), ((a 30), .inl (cI, 6792, .inl zI0)), ((a 3), .inl (cJ, 2, .inr (.inr (.inr (.inr fb))))), ((a 31), .inl (cI, 6792, .inl zI0)), ((a 32), .inl (cI, 6792, .inl zI0)), ((a 4), .inl (cZ, 2, .inl zI0)), ((a 6), .inl (cI, 200, .inl zI0)), ((a 10), .inl (cI, 41, .inl zI0))]) hP hD [0] [] rfl rfl (by decide) (by decide) hk1 hFc hP1 hD1
  have hK := hK.app hK1
  generalize H1 = H at hP hS ⊢
  have hP : va_P D vwCl ([((a 0), .inr (12, zMo a zI0)), ((a 1), .inl (cI, 6792, .inl zI0)), ((a 2), .inl (cJ, 8, .inr (.inr (.inr (.inr fa))))), ((a 30), .inl (cI, 6792, .inl zI0)), ((a 3), .inl (cJ, 2, .inr (.inr (.inr (.inr fb))))), ((a 31), .inl (cI, 6792, .inl zI0)), ((a 32), .inl (cI, 6792, .inl zI0)), ((a 4), .inl (cZ, 2, .inl zI0)), ((a 6), .inl (cI, 200, .inl zI0)), ((a 10), .inl (cI, 41, .inl zI0))] ++ (zFW h cs fn fp f0 fi f1 f2)) H := hP
  have hD : va_D A ([((a 0), .inr (12, zMo a zI0)), ((a 1), .inl (cI, 6792, .inl zI0)), ((a 2), .inl (cJ, 8, .inr (.inr (.inr (.inr fa))))), ((a 30), .inl (cI, 6792, .inl zI0)), ((a 3), .inl (cJ, 2, .inr (.inr (.inr (.inr fb))))), ((a 31), .inl (cI, 6792, .inl zI0)), ((a 32), .inl (cI, 6792, .inl zI0)), ((a 4), .inl (cZ, 2, .inl zI0)), ((a 6), .inl (cI, 200, .inl zI0)), ((a 10), .inl (cI, 41, .inl zI0))] ++ (zFW h cs fn fp f0 fi f1 f2)) := hD
  have hK : va_K D vwCl [((cs 7), .object RX7), ((cs 9), .object RX9), ((cs 4), .object RX4), ((cs 2), .object RX2), ((cs 0), .object RX0), ((cs 8), .object RX8), ((cs 13), .int), ((cs 14), .boolean), (cI, .int), (cJ, .array .int), (cZ, .boolean)] s := hK
  refine W.eq (g2 := F0 m 15 ls (.ref (a 0) :: [])) (by rw [ha0]) ?_
  refine W.widen (k := 1191) (n := 188301) (Nat.le_of_ble_eq_true rfl) (Nat.le_of_ble_eq_true rfl) ?_
  refine lv_astore_n (lv' := [(2, .ref (a 0)), (1, .ref (h 0)), (0, .ref b)]) hx hb dL_law__15 rfl hl (by decide) rfl (fun ls hl => ?_)
  refine lv_iconst (v := 1) hx hb dL_law__16 (by decide) ?_
  refine va_newa (atype := .long) (a0 := (1, .inr (.inl (fun _ => 0)))) hx hb (ht _ zw_770) rfl hK hP hD hS hA (fun _ => rfl) (by decide) rfl (Nat.le_of_ble_eq_true rfl) (Nat.le_of_ble_eq_true rfl) (Nat.le_of_ble_eq_true rfl) dL_law__17 (fun q_5 cA_5 H hK hP hD hS => ?_)
  have hP := va_P.swap hP
  have hD := va_D.swap hD
  have hP : va_P D vwCl ([((a 0), .inr (12, zMo a zI0)), ((a 1), .inl (cI, 6792, .inl zI0)), ((a 2), .inl (cJ, 8, .inr (.inr (.inr (.inr fa))))), ((a 30), .inl (cI, 6792, .inl zI0)), ((a 3), .inl (cJ, 2, .inr (.inr (.inr (.inr fb))))), ((a 31), .inl (cI, 6792, .inl zI0)), ((a 32), .inl (cI, 6792, .inl zI0)), ((a 4), .inl (cZ, 2, .inl zI0)), ((a 6), .inl (cI, 200, .inl zI0)), ((a 10), .inl (cI, 41, .inl zI0)), (q_5, .inl (cA_5, 1, .inr (.inl (fun _ => 0))))] ++ (zFW h cs fn fp f0 fi f1 f2)) H := hP
  have hD : va_D A ([((a 0), .inr (12, zMo a zI0)), ((a 1), .inl (cI, 6792, .inl zI0)), ((a 2), .inl (cJ, 8, .inr (.inr (.inr (.inr fa))))), ((a 30), .inl (cI, 6792, .inl zI0)), ((a 3), .inl (cJ, 2, .inr (.inr (.inr (.inr fb))))), ((a 31), .inl (cI, 6792, .inl zI0)), ((a 32), .inl (cI, 6792, .inl zI0)), ((a 4), .inl (cZ, 2, .inl zI0)), ((a 6), .inl (cI, 200, .inl zI0)), ((a 10), .inl (cI, 41, .inl zI0)), (q_5, .inl (cA_5, 1, .inr (.inl (fun _ => 0))))] ++ (zFW h cs fn fp f0 fi f1 f2)) := hD
  have hK : va_K D vwCl [((cs 7), .object RX7), ((cs 9), .object RX9), ((cs 4), .object RX4), ((cs 2), .object RX2), ((cs 0), .object RX0), ((cs 8), .object RX8), ((cs 13), .int), ((cs 14), .boolean), (cI, .int), (cJ, .array .int), (cZ, .boolean), (cA_5, .long)] s := hK
  refine W.widen (k := 1192) (n := 188302) (Nat.le_of_ble_eq_true rfl) (Nat.le_of_ble_eq_true rfl) ?_
  refine lv_astore_n (lv' := [(3, .ref q_5), (2, .ref (a 0)), (1, .ref (h 0)), (0, .ref b)]) hx hb dL_law__19 rfl hl (by decide) rfl (fun ls hl => ?_)
  refine lv_iconst (v := 0) hx hb dL_law__20 (by decide) ?_
  refine lv_istore (lv' := [(4, .int 0), (3, .ref q_5), (2, .ref (a 0)), (1, .ref (h 0)), (0, .ref b)]) hx hb dL_law__21 hl (by decide) rfl (fun ls hl => ?_)
  exact kk h cs fn fp f0 fi f1 f2 hn hp hi0 hi1 a cI cJ cZ fa fb ha hb0 hb1 q_5 cA_5 H _ ls hK hP hD hS (lv_sub hl [4, 3, 2, 1, 0] rfl)
set_option maxHeartbeats 4000000 in
theorem zshort {p : Program} {l : Launch} {e : Env} {s : State} {m : MethodId} {below : List Frame} {meth : Method} {c : Code} {b L : Nat} {xs : Nat → Int32} {A : Nat → Prop} (hx : p.tables.exec = Jvm.exec) (hb : c.code = code) (hml : c.maxLocals = 9) (hr : meth.sig.returnType = ret) (hown : s.vm.findClass RL = some m.cls) (ht : ∀ w ∈ zT, w.before #[Value.ref b] s = true) (hlocks : meth.locks = false) (hX : va_X b L xs s s.heap) (hbl : b < s.heap.size) (hAe : ∀ q : Nat, A q ↔ s.heap.size ≤ q) (hlt : L < 6) {o a0 h0 : Nat} {H : Heap} {locs : List Loc} {ls : Array Slot} (hS : va_S A s.heap H locs) (hl : lv_has ls 9 [(0, .ref b), (1, .ref h0), (2, .ref a0), (3, .ref o), (4, .int 0)]) : W p l e room_1 s m #[Value.ref b] below meth c H locs 1192 188302 (lw_Z below #[Value.ref b] s) (F0 m 23 ls []) := by
  have hbA : ¬ A b := fun h => Nat.not_le.mpr hbl ((hAe b).mp h)
  rcases (show L = 0 ∨ L = 1 ∨ L = 2 ∨ L = 3 ∨ L = 4 ∨ L = 5 by omega) with hL | hL | hL | hL | hL | hL
  · skip
    refine lv_iload hx hb dL_law__23 (lv_at hl 4 rfl) ?_
    refine lv_aload_n hx hb dL_law__25 rfl (lv_at hl 0 rfl) ?_
    refine va_slen hx hb hX hbl hbA hS dL_law__26 ?_
    refine W.eq (g2 := F0 m 27 ls (.int 0 :: .int 0 :: [])) (by rw [hL]; rfl) ?_
    refine lv_bipush (v := 6) hx hb dL_law__27 (by decide) ?_
    refine lv_isub hx hb dL_law__29 ?_
    refine lv_topi (fun x_1 e_1 => ?_)
    obtain rfl : x_1 = (-6) := e_1.trans (by decide)
    refine lv_icmp_gt (tgt := 3439) hx hb dL_law__30 (by decide) (fun c_2 => ?_) (fun c_2 => ?_)
    · skip
      refine lv_iconst (v := 1) hx hb dL_law__3439 (by decide) ?_
      refine va_forget (fun q hq => (hAe _).mp (hS.2.2 q hq)) ?_
      refine W.widen (k := 600002) (n := 7302231) (Nat.le_of_ble_eq_true rfl) (Nat.le_of_ble_eq_true rfl) ?_
      refine W.base ?_
      exact lw_ret (Drawn.sameBut.refl s.drawn lw_cs) hx hb hr hlocks dL_law__3440
    · skip
      exact absurd c_2 (by decide)
  · skip
    refine lv_iload hx hb dL_law__23 (lv_at hl 4 rfl) ?_
    refine lv_aload_n hx hb dL_law__25 rfl (lv_at hl 0 rfl) ?_
    refine va_slen hx hb hX hbl hbA hS dL_law__26 ?_
    refine W.eq (g2 := F0 m 27 ls (.int 1 :: .int 0 :: [])) (by rw [hL]; rfl) ?_
    refine lv_bipush (v := 6) hx hb dL_law__27 (by decide) ?_
    refine lv_isub hx hb dL_law__29 ?_
    refine lv_topi (fun x_1 e_1 => ?_)
    obtain rfl : x_1 = (-5) := e_1.trans (by decide)
    refine lv_icmp_gt (tgt := 3439) hx hb dL_law__30 (by decide) (fun c_2 => ?_) (fun c_2 => ?_)
    · skip
      refine lv_iconst (v := 1) hx hb dL_law__3439 (by decide) ?_
      refine va_forget (fun q hq => (hAe _).mp (hS.2.2 q hq)) ?_
      refine W.widen (k := 600002) (n := 7302231) (Nat.le_of_ble_eq_true rfl) (Nat.le_of_ble_eq_true rfl) ?_
      refine W.base ?_
      exact lw_ret (Drawn.sameBut.refl s.drawn lw_cs) hx hb hr hlocks dL_law__3440
    · skip
      exact absurd c_2 (by decide)
  · skip
    refine lv_iload hx hb dL_law__23 (lv_at hl 4 rfl) ?_
    refine lv_aload_n hx hb dL_law__25 rfl (lv_at hl 0 rfl) ?_
    refine va_slen hx hb hX hbl hbA hS dL_law__26 ?_
    refine W.eq (g2 := F0 m 27 ls (.int 2 :: .int 0 :: [])) (by rw [hL]; rfl) ?_
    refine lv_bipush (v := 6) hx hb dL_law__27 (by decide) ?_
    refine lv_isub hx hb dL_law__29 ?_
    refine lv_topi (fun x_1 e_1 => ?_)
    obtain rfl : x_1 = (-4) := e_1.trans (by decide)
    refine lv_icmp_gt (tgt := 3439) hx hb dL_law__30 (by decide) (fun c_2 => ?_) (fun c_2 => ?_)
    · skip
      refine lv_iconst (v := 1) hx hb dL_law__3439 (by decide) ?_
      refine va_forget (fun q hq => (hAe _).mp (hS.2.2 q hq)) ?_
      refine W.widen (k := 600002) (n := 7302231) (Nat.le_of_ble_eq_true rfl) (Nat.le_of_ble_eq_true rfl) ?_
      refine W.base ?_
      exact lw_ret (Drawn.sameBut.refl s.drawn lw_cs) hx hb hr hlocks dL_law__3440
    · skip
      exact absurd c_2 (by decide)
  · skip
    refine lv_iload hx hb dL_law__23 (lv_at hl 4 rfl) ?_
    refine lv_aload_n hx hb dL_law__25 rfl (lv_at hl 0 rfl) ?_
    refine va_slen hx hb hX hbl hbA hS dL_law__26 ?_
    refine W.eq (g2 := F0 m 27 ls (.int 3 :: .int 0 :: [])) (by rw [hL]; rfl) ?_
    refine lv_bipush (v := 6) hx hb dL_law__27 (by decide) ?_
    refine lv_isub hx hb dL_law__29 ?_
    refine lv_topi (fun x_1 e_1 => ?_)
    obtain rfl : x_1 = (-3) := e_1.trans (by decide)
    refine lv_icmp_gt (tgt := 3439) hx hb dL_law__30 (by decide) (fun c_2 => ?_) (fun c_2 => ?_)
    · skip
      refine lv_iconst (v := 1) hx hb dL_law__3439 (by decide) ?_
      refine va_forget (fun q hq => (hAe _).mp (hS.2.2 q hq)) ?_
      refine W.widen (k := 600002) (n := 7302231) (Nat.le_of_ble_eq_true rfl) (Nat.le_of_ble_eq_true rfl) ?_
      refine W.base ?_
      exact lw_ret (Drawn.sameBut.refl s.drawn lw_cs) hx hb hr hlocks dL_law__3440
    · skip
      exact absurd c_2 (by decide)
  · skip
    refine lv_iload hx hb dL_law__23 (lv_at hl 4 rfl) ?_
    refine lv_aload_n hx hb dL_law__25 rfl (lv_at hl 0 rfl) ?_
    refine va_slen hx hb hX hbl hbA hS dL_law__26 ?_
    refine W.eq (g2 := F0 m 27 ls (.int 4 :: .int 0 :: [])) (by rw [hL]; rfl) ?_
    refine lv_bipush (v := 6) hx hb dL_law__27 (by decide) ?_
    refine lv_isub hx hb dL_law__29 ?_
    refine lv_topi (fun x_1 e_1 => ?_)
    obtain rfl : x_1 = (-2) := e_1.trans (by decide)
    refine lv_icmp_gt (tgt := 3439) hx hb dL_law__30 (by decide) (fun c_2 => ?_) (fun c_2 => ?_)
    · skip
      refine lv_iconst (v := 1) hx hb dL_law__3439 (by decide) ?_
      refine va_forget (fun q hq => (hAe _).mp (hS.2.2 q hq)) ?_
      refine W.widen (k := 600002) (n := 7302231) (Nat.le_of_ble_eq_true rfl) (Nat.le_of_ble_eq_true rfl) ?_
      refine W.base ?_
      exact lw_ret (Drawn.sameBut.refl s.drawn lw_cs) hx hb hr hlocks dL_law__3440
    · skip
      exact absurd c_2 (by decide)
  · skip
    refine lv_iload hx hb dL_law__23 (lv_at hl 4 rfl) ?_
    refine lv_aload_n hx hb dL_law__25 rfl (lv_at hl 0 rfl) ?_
    refine va_slen hx hb hX hbl hbA hS dL_law__26 ?_
    refine W.eq (g2 := F0 m 27 ls (.int 5 :: .int 0 :: [])) (by rw [hL]; rfl) ?_
    refine lv_bipush (v := 6) hx hb dL_law__27 (by decide) ?_
    refine lv_isub hx hb dL_law__29 ?_
    refine lv_topi (fun x_1 e_1 => ?_)
    obtain rfl : x_1 = (-1) := e_1.trans (by decide)
    refine lv_icmp_gt (tgt := 3439) hx hb dL_law__30 (by decide) (fun c_2 => ?_) (fun c_2 => ?_)
    · skip
      refine lv_iconst (v := 1) hx hb dL_law__3439 (by decide) ?_
      refine va_forget (fun q hq => (hAe _).mp (hS.2.2 q hq)) ?_
      refine W.widen (k := 600002) (n := 7302231) (Nat.le_of_ble_eq_true rfl) (Nat.le_of_ble_eq_true rfl) ?_
      refine W.base ?_
      exact lw_ret (Drawn.sameBut.refl s.drawn lw_cs) hx hb hr hlocks dL_law__3440
    · skip
      exact absurd c_2 (by decide)
