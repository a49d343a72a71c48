/-! ===== BEGIN .. of methods that hand back an object of the pool ===== -/
section
variable {p : Program} {l : Launch} {e : Env} {R : Room} {s : State} {m : MethodId} {args : Array Value} {below : List Frame} {meth : Method} {c : Code} {H : Heap} {locs : List Loc} {cells slots : Nat} {Q : State → Prop}
variable {mc ms : Nat} {free : Addr → Prop} {A0 A1 : Nat → Prop} {H0 : Heap} {a : Array Value} {pc : Nat} {ls : Array Slot} {st0 rest : List Value}
theorem vx_callq {S SX : Type} {post : Option Nat → S → Prop} {px : SX → Prop} {B : S → State → Prop} {BX : String → SX → State → Prop} {AX : Nat → Prop} (hr : vx_Run p l e R s m args below meth c H locs cells slots mc ms (F0 m pc ls st0) rest (va_Qq post B A1 a) (vx_X px BX AX) free) (hS : va_S A0 H0 H locs) (hA : ∀ q, q < H.size → A1 q → A0 q) (hf : ∀ q, free q → A0 q) (hAX : ∀ q, q < H.size → AX q → A0 q)
    (kx : ∀ (E : String) (ce : Cell) (q9 : Addr) (u : SX) (t : State) (H1 : Heap) (locs1 : List Loc), t.heap = H1 → s.vm.Alike t.vm → px u → BX E u t → H.size ≤ H1.size → (∀ q : Nat, q < H.size → ¬ AX q → H1[q]? = H[q]?) → va_S A0 H0 H1 locs1 → H1[q9]? = some ce → ce.vm = .none → s.vm.findClass E = some ce.cls → vx_W p l e R s m args below meth c H1 locs1 (cells + mc) (slots + ms) Q (F0 m pc ls rest) q9)
    (kk : ∀ (r : Option Nat) (u : S) (t : State) (H1 : Heap) (locs1 : List Loc), t.heap = H1 → s.vm.Alike t.vm → post r u → B u t → H.size ≤ H1.size → (∀ q : Nat, q < H.size → ¬ A1 q → H1[q]? = H[q]?) → va_S A0 H0 H1 locs1 → W p l e R s m args below meth c H1 locs1 (cells + mc) (slots + ms) Q (F0 m (pc + 3) ls (va_rf r :: rest))) : W p l e R s m args below meth c H locs cells slots Q (F0 m pc ls st0) := by
  intro T hT X
  rcases hr T hT X with ⟨v, st₀, t, T', L, h0, X', hL, e1, e2, ⟨⟨r, u, hv, hp, hb⟩, hF⟩, st⟩ | ⟨q, st₀, t, T', L, E, ce, h0, X', hL, e1, e2, ⟨u, hp, hb, hF⟩, hce, hcv, hcl, st⟩
  · cases hv
    obtain ⟨k1, k2, k3⟩ := vx_keep h0 e1 hS hA hf hL hF
    obtain ⟨t2, a1, b1⟩ := kk r u t T'.heap (locs ++ L) e1.symm (by rw [← e2]; exact X'.warmed.alike) hp hb k1 k2 k3 T' rfl X'
    exact ⟨t2, st t2 a1, b1⟩
  · obtain ⟨k1, k2, k3⟩ := vx_keep h0 e1 hS hAX hf hL hF
    obtain ⟨t2, a1, b1⟩ := kx E ce q u t T'.heap (locs ++ L) e1.symm (by rw [← e2]; exact X'.warmed.alike) hp hb k1 k2 k3 (by rw [e1]; exact hce) hcv hcl T' rfl X'
    exact ⟨t2, st.trans a1, b1⟩
end
/-! ===== END ===== -/
abbrev cX11_checkNumber : ByteArray := prog_1_method_53_code
def yX11_checkNumber : MethodName := ⟨RX11, "checkNumber", "(II)V"⟩
theorem dX11_checkNumber_0 : decode cX11_checkNumber 0 = .ok (.iload_n 0, 1) := by decide +kernel
theorem dX11_checkNumber_1 : decode cX11_checkNumber 1 = .ok (.ifCond .lt 8, 3) := by decide +kernel
theorem dX11_checkNumber_9 : decode cX11_checkNumber 9 = .ok (.new 156, 3) := by decide +kernel
theorem dX11_checkNumber_12 : decode cX11_checkNumber 12 = .ok (.dup, 1) := by decide +kernel
theorem dX11_checkNumber_13 : decode cX11_checkNumber 13 = .ok (.ldc_w 497, 3) := by decide +kernel
theorem dX11_checkNumber_16 : decode cX11_checkNumber 16 = .ok (.invokespecial 160, 3) := by decide +kernel
theorem dX11_checkNumber_19 : decode cX11_checkNumber 19 = .ok (.athrow, 1) := by decide +kernel
theorem zw_155 : Cond.classLink RX11 156 "java/lang/IllegalArgumentException" ∈ zT := zT_of 764 (by decide +kernel) (by decide +kernel)
theorem zw_156 : Cond.initialized "java/lang/IllegalArgumentException" ∈ zT := zT_of 14 (by decide +kernel) (by decide +kernel)
theorem dX11_checkNumber_4 : decode cX11_checkNumber 4 = .ok (.iload_n 0, 1) := by decide +kernel
theorem dX11_checkNumber_5 : decode cX11_checkNumber 5 = .ok (.iload_n 1, 1) := by decide +kernel
theorem dX11_checkNumber_6 : decode cX11_checkNumber 6 = .ok (.if_icmp .le 14, 3) := by decide +kernel
theorem dX11_checkNumber_20 : decode cX11_checkNumber 20 = .ok (.return_, 1) := by decide +kernel
set_option maxHeartbeats 4000000 in
set_option maxRecDepth 100000 in
theorem k_X11_checkNumber (l : Launch) (hl0 : l.stackTraces = false) (sz : Nat) (D : va_G) (i n : Int32) : vx_Met l yX11_checkNumber (.code yX11_checkNumber cX11_checkNumber 2 none :: zT) ({ frames := 6, cells := 1, slots := 6, locals := 90 }) (va_Pc [.int i, .int n] (zW D [] [] sz)) (va_Qv (fun (_ : Unit) => 0 ≤ i.toInt ∧ i.toInt ≤ n.toInt) (fun _ t => zE D [] [] (va_A [] sz) t) (va_A [] sz)) (vx_X (fun _ : Unit => True) (fun E _ _ => E = "java/lang/IllegalArgumentException" ∧ ¬ (0 ≤ i.toInt ∧ i.toInt ≤ n.toInt)) (va_A [] sz)) 1 6 (va_A [] sz) := by
  refine vx_ofW (cc := cX11_checkNumber) (maxL := 2) (ret := none) (by decide) rfl ?_
  intro p e s m args below meth c s₁ B hml hexc hv
  obtain ⟨rfl, hEx, hsz, hP, hK, hD0⟩ := hv
  have hx := B.exec
  have hb := B.bytes
  have hr := B.returns
  have hts := atoms_spec (ws := (.code yX11_checkNumber cX11_checkNumber 2 none :: zT)) B.pre
  have ht : ∀ w ∈ zT, w.before _ s = true := fun w h => hts w (List.mem_cons_of_mem _ h)
  have hown : s.vm.findClass RX11 = some m.cls := findClass_of_methodNamed B.named
  have hlocks := B.notSynchronized
  subst hsz
  have hD := hD0.self (sz := s.heap.size)
  generalize hAe : va_A [] s.heap.size = A at hD hEx ⊢
  have hA : ∀ q : Nat, s.heap.size ≤ q → A q := fun q h => by rw [← hAe]; exact Or.inr h
  have hS : va_S A s.heap s.heap [] := va_S.rf
  have hP : va_P D vwCl [] s.heap := hP
  have hl := lv_entry ([.int i, .int n]) (n := 2) (Nat.le_of_ble_eq_true rfl)
  rw [lg_entry_eq]
  generalize (lg_sl ([.int i, .int n]) ++ List.replicate (2 - (lg_sl ([.int i, .int n])).length) Slot.unset).toArray = ls at hl ⊢
  have hl : lv_has ls 2 [(0, .int i), (1, .int n)] := hl
  skip
  refine lv_iload_n hx hb dX11_checkNumber_0 rfl (lv_at hl 0 rfl) ?_
  refine lv_if_lt (tgt := 9) hx hb dX11_checkNumber_1 (by decide) (fun c_1 => ?_) (fun c_1 => ?_)
  · skip
    simp only [fa_lt, fa_le, fa_eq, Int32.reduceToInt] at c_1
    exact zthrow (k := 3) (names := ["java/lang/RuntimeException", "java/lang/Exception"]) (ix := 7) (rx := zSix) (text := "a number is out of range") (is := 497) hx hb hl0 (by decide) (by decide) (by decide +kernel) (by decide +kernel) (by decide +kernel) (by decide +kernel) zw_155 zw_156 zAt_IAE zOt_IAE (by decide +kernel) (by decide +kernel) hown ht hEx hS (hl.1.trans hml.symm) dX11_checkNumber_9 dX11_checkNumber_12 (.inr ⟨dX11_checkNumber_13, rfl⟩) dX11_checkNumber_16 dX11_checkNumber_19 hexc (Nat.le_of_ble_eq_true rfl) (Nat.le_of_ble_eq_true rfl) (Nat.le_of_ble_eq_true rfl) (Nat.le_of_ble_eq_true rfl) hlocks (fun t hvm hF => ⟨(), trivial, ⟨rfl, by omega⟩, hF⟩) hS.2.2 (Nat.le_of_ble_eq_true rfl) (Nat.le_of_ble_eq_true rfl)
  · skip
    simp only [fa_lt, fa_le, fa_eq, Int32.reduceToInt] at c_1
    refine lv_iload_n hx hb dX11_checkNumber_4 rfl (lv_at hl 0 rfl) ?_
    refine lv_iload_n hx hb dX11_checkNumber_5 rfl (lv_at hl 1 rfl) ?_
    refine lv_icmp_le (tgt := 20) hx hb dX11_checkNumber_6 (by decide) (fun c_2 => ?_) (fun c_2 => ?_)
    · skip
      simp only [fa_lt, fa_le, fa_eq, Int32.reduceToInt] at c_2
      have hP9 := hP.sub (ws' := []) [] rfl
      have hD9 := hD.sub (ws' := []) [] (by decide) rfl
      have hK9 := hK.sub (tys' := []) [] rfl
      refine W.widen (k := 1) (n := 6) (Nat.le_of_ble_eq_true rfl) (Nat.le_of_ble_eq_true rfl) ?_
      refine vx_ret ?_
      exact W.vret hx hb hr (fun t ht0 hW => ⟨⟨(), rfl, (by omega), (zE_of hP9 hK9 hD9 ht0 hW)⟩, hS.F ht0⟩) hS.2.2 dX11_checkNumber_20
    · skip
      simp only [fa_lt, fa_le, fa_eq, Int32.reduceToInt] at c_2
      exact zthrow (k := 3) (names := ["java/lang/RuntimeException", "java/lang/Exception"]) (ix := 7) (rx := zSix) (text := "a number is out of range") (is := 497) hx hb hl0 (by decide) (by decide) (by decide +kernel) (by decide +kernel) (by decide +kernel) (by decide +kernel) zw_155 zw_156 zAt_IAE zOt_IAE (by decide +kernel) (by decide +kernel) hown ht hEx hS (hl.1.trans hml.symm) dX11_checkNumber_9 dX11_checkNumber_12 (.inr ⟨dX11_checkNumber_13, rfl⟩) dX11_checkNumber_16 dX11_checkNumber_19 hexc (Nat.le_of_ble_eq_true rfl) (Nat.le_of_ble_eq_true rfl) (Nat.le_of_ble_eq_true rfl) (Nat.le_of_ble_eq_true rfl) hlocks (fun t hvm hF => ⟨(), trivial, ⟨rfl, by omega⟩, hF⟩) hS.2.2 (Nat.le_of_ble_eq_true rfl) (Nat.le_of_ble_eq_true rfl)
abbrev cX11_checkIndex : ByteArray := prog_1_method_54_code
def yX11_checkIndex : MethodName := ⟨RX11, "checkIndex", "(II)V"⟩
theorem dX11_checkIndex_0 : decode cX11_checkIndex 0 = .ok (.iload_n 0, 1) := by decide +kernel
theorem dX11_checkIndex_1 : decode cX11_checkIndex 1 = .ok (.ifCond .lt 8, 3) := by decide +kernel
theorem dX11_checkIndex_9 : decode cX11_checkIndex 9 = .ok (.new 499, 3) := by decide +kernel
theorem dX11_checkIndex_12 : decode cX11_checkIndex 12 = .ok (.dup, 1) := by decide +kernel
theorem dX11_checkIndex_13 : decode cX11_checkIndex 13 = .ok (.ldc_w 501, 3) := by decide +kernel
theorem dX11_checkIndex_16 : decode cX11_checkIndex 16 = .ok (.invokespecial 503, 3) := by decide +kernel
theorem dX11_checkIndex_19 : decode cX11_checkIndex 19 = .ok (.athrow, 1) := by decide +kernel
theorem zw_157 : Cond.classLink RX11 499 "java/lang/IndexOutOfBoundsException" ∈ zT := zT_of 894 (by decide +kernel) (by decide +kernel)
theorem zw_158 : Cond.initialized "java/lang/IndexOutOfBoundsException" ∈ zT := zT_of 19 (by decide +kernel) (by decide +kernel)
theorem dX11_checkIndex_4 : decode cX11_checkIndex 4 = .ok (.iload_n 0, 1) := by decide +kernel
theorem dX11_checkIndex_5 : decode cX11_checkIndex 5 = .ok (.iload_n 1, 1) := by decide +kernel
theorem dX11_checkIndex_6 : decode cX11_checkIndex 6 = .ok (.if_icmp .lt 14, 3) := by decide +kernel
theorem dX11_checkIndex_20 : decode cX11_checkIndex 20 = .ok (.return_, 1) := by decide +kernel
set_option maxHeartbeats 4000000 in
set_option maxRecDepth 100000 in
theorem k_X11_checkIndex (l : Launch) (hl0 : l.stackTraces = false) (sz : Nat) (D : va_G) (i n : Int32) : vx_Met l yX11_checkIndex (.code yX11_checkIndex cX11_checkIndex 2 none :: zT) ({ frames := 6, cells := 1, slots := 6, locals := 90 }) (va_Pc [.int i, .int n] (zW D [] [] sz)) (va_Qv (fun (_ : Unit) => 0 ≤ i.toInt ∧ i.toInt < n.toInt) (fun _ t => zE D [] [] (va_A [] sz) t) (va_A [] sz)) (vx_X (fun _ : Unit => True) (fun E _ _ => E = "java/lang/IndexOutOfBoundsException" ∧ ¬ (0 ≤ i.toInt ∧ i.toInt < n.toInt)) (va_A [] sz)) 1 6 (va_A [] sz) := by
  refine vx_ofW (cc := cX11_checkIndex) (maxL := 2) (ret := none) (by decide) rfl ?_
  intro p e s m args below meth c s₁ B hml hexc hv
  obtain ⟨rfl, hEx, hsz, hP, hK, hD0⟩ := hv
  have hx := B.exec
  have hb := B.bytes
  have hr := B.returns
  have hts := atoms_spec (ws := (.code yX11_checkIndex cX11_checkIndex 2 none :: zT)) B.pre
  have ht : ∀ w ∈ zT, w.before _ s = true := fun w h => hts w (List.mem_cons_of_mem _ h)
  have hown : s.vm.findClass RX11 = some m.cls := findClass_of_methodNamed B.named
  have hlocks := B.notSynchronized
  subst hsz
  have hD := hD0.self (sz := s.heap.size)
  generalize hAe : va_A [] s.heap.size = A at hD hEx ⊢
  have hA : ∀ q : Nat, s.heap.size ≤ q → A q := fun q h => by rw [← hAe]; exact Or.inr h
  have hS : va_S A s.heap s.heap [] := va_S.rf
  have hP : va_P D vwCl [] s.heap := hP
  have hl := lv_entry ([.int i, .int n]) (n := 2) (Nat.le_of_ble_eq_true rfl)
  rw [lg_entry_eq]
  generalize (lg_sl ([.int i, .int n]) ++ List.replicate (2 - (lg_sl ([.int i, .int n])).length) Slot.unset).toArray = ls at hl ⊢
  have hl : lv_has ls 2 [(0, .int i), (1, .int n)] := hl
  skip
  refine lv_iload_n hx hb dX11_checkIndex_0 rfl (lv_at hl 0 rfl) ?_
  refine lv_if_lt (tgt := 9) hx hb dX11_checkIndex_1 (by decide) (fun c_1 => ?_) (fun c_1 => ?_)
  · skip
    simp only [fa_lt, fa_le, fa_eq, Int32.reduceToInt] at c_1
    exact zthrow (k := 3) (names := ["java/lang/RuntimeException", "java/lang/Exception"]) (ix := 7) (rx := zSix) (text := "there is none with this number") (is := 501) hx hb hl0 (by decide) (by decide) (by decide +kernel) (by decide +kernel) (by decide +kernel) (by decide +kernel) zw_157 zw_158 zAt_IOOBE zOt_IOOBE (by decide +kernel) (by decide +kernel) hown ht hEx hS (hl.1.trans hml.symm) dX11_checkIndex_9 dX11_checkIndex_12 (.inr ⟨dX11_checkIndex_13, rfl⟩) dX11_checkIndex_16 dX11_checkIndex_19 hexc (Nat.le_of_ble_eq_true rfl) (Nat.le_of_ble_eq_true rfl) (Nat.le_of_ble_eq_true rfl) (Nat.le_of_ble_eq_true rfl) hlocks (fun t hvm hF => ⟨(), trivial, ⟨rfl, by omega⟩, hF⟩) hS.2.2 (Nat.le_of_ble_eq_true rfl) (Nat.le_of_ble_eq_true rfl)
  · skip
    simp only [fa_lt, fa_le, fa_eq, Int32.reduceToInt] at c_1
    refine lv_iload_n hx hb dX11_checkIndex_4 rfl (lv_at hl 0 rfl) ?_
    refine lv_iload_n hx hb dX11_checkIndex_5 rfl (lv_at hl 1 rfl) ?_
    refine lv_icmp_lt (tgt := 20) hx hb dX11_checkIndex_6 (by decide) (fun c_2 => ?_) (fun c_2 => ?_)
    · skip
      simp only [fa_lt, fa_le, fa_eq, Int32.reduceToInt] at c_2
      have hP9 := hP.sub (ws' := []) [] rfl
      have hD9 := hD.sub (ws' := []) [] (by decide) rfl
      have hK9 := hK.sub (tys' := []) [] rfl
      refine W.widen (k := 1) (n := 6) (Nat.le_of_ble_eq_true rfl) (Nat.le_of_ble_eq_true rfl) ?_
      refine vx_ret ?_
      exact W.vret hx hb hr (fun t ht0 hW => ⟨⟨(), rfl, (by omega), (zE_of hP9 hK9 hD9 ht0 hW)⟩, hS.F ht0⟩) hS.2.2 dX11_checkIndex_20
    · skip
      simp only [fa_lt, fa_le, fa_eq, Int32.reduceToInt] at c_2
      exact zthrow (k := 3) (names := ["java/lang/RuntimeException", "java/lang/Exception"]) (ix := 7) (rx := zSix) (text := "there is none with this number") (is := 501) hx hb hl0 (by decide) (by decide) (by decide +kernel) (by decide +kernel) (by decide +kernel) (by decide +kernel) zw_157 zw_158 zAt_IOOBE zOt_IOOBE (by decide +kernel) (by decide +kernel) hown ht hEx hS (hl.1.trans hml.symm) dX11_checkIndex_9 dX11_checkIndex_12 (.inr ⟨dX11_checkIndex_13, rfl⟩) dX11_checkIndex_16 dX11_checkIndex_19 hexc (Nat.le_of_ble_eq_true rfl) (Nat.le_of_ble_eq_true rfl) (Nat.le_of_ble_eq_true rfl) (Nat.le_of_ble_eq_true rfl) hlocks (fun t hvm hF => ⟨(), trivial, ⟨rfl, by omega⟩, hF⟩) hS.2.2 (Nat.le_of_ble_eq_true rfl) (Nat.le_of_ble_eq_true rfl)
