/-! What a method may ask of the heap: a world that it reads alone, or a world that it may change. -/
def zR (D : va_G) (ws : va_W) (tys : List (ClassId × FieldType)) : State → Prop := fun U => va_P D vwCl ws U.heap ∧ va_K D vwCl tys U
def zM (D : va_G) (ws : va_W) (tys : List (ClassId × FieldType)) (sz : Nat) : State → Prop := fun U => U.heap.size = sz ∧ va_P D vwCl ws U.heap ∧ va_K D vwCl tys U ∧ va_D (fun _ => True) ws
theorem zN_fb (av : List Value) : FrameBlind (va_Pc av (fun _ => True)) := fun _ _ _ _ q => q
theorem zR_fb (av : List Value) (D : va_G) (ws : va_W) (tys : List (ClassId × FieldType)) : FrameBlind (va_Pc av (zR D ws tys)) := fun a U g mk q => by
  obtain ⟨q0, qP, qK⟩ := q
  exact ⟨q0, qP, va_K.moved (u := U) (U := U.calling g mk a) (Vm.Alike.refl U.vm) qK⟩
theorem zM_fb (av : List Value) (D : va_G) (ws : va_W) (tys : List (ClassId × FieldType)) (sz : Nat) : FrameBlind (va_Pc av (zM D ws tys sz)) := fun a U g mk q => by
  obtain ⟨q0, q1, qP, qK, qD⟩ := q
  exact ⟨q0, q1, qP, va_K.moved (u := U) (U := U.calling g mk a) (Vm.Alike.refl U.vm) qK, qD⟩
theorem zN_S {s : State} {H : Heap} {As : List Value} : PreS s H (va_Pc As (fun _ => True)) As := ⟨zN_fb _, fun _ _ _ => ⟨rfl, trivial⟩⟩
theorem zN_V {s : State} {H : Heap} {C : String} {b : Addr} {As : List Value} (hr : ∃ cellB : Cell, H[b]? = some cellB ∧ cellB.vm.isStatics = false ∧ s.vm.findClass C = some cellB.cls) : PreV s H C b (va_Pc (.ref b :: As) (fun _ => True)) As := ⟨zN_fb _, hr, fun _ _ _ => ⟨rfl, trivial⟩⟩
theorem zR_S {s : State} {H : Heap} {As : List Value} {D : va_G} {ws : va_W} {tys : List (ClassId × FieldType)} (hP : va_P D vwCl ws H) (hK : va_K D vwCl tys s) : PreS s H (va_Pc As (zR D ws tys)) As := ⟨zR_fb _ _ _ _, fun U hU hW => ⟨rfl, by rw [hU]; exact hP, va_K.moved hW.alike hK⟩⟩
theorem zR_V {s : State} {H : Heap} {C : String} {b : Addr} {As : List Value} {D : va_G} {ws : va_W} {tys : List (ClassId × FieldType)} (hr : ∃ cellB : Cell, H[b]? = some cellB ∧ cellB.vm.isStatics = false ∧ s.vm.findClass C = some cellB.cls) (hP : va_P D vwCl ws H) (hK : va_K D vwCl tys s) : PreV s H C b (va_Pc (.ref b :: As) (zR D ws tys)) As := ⟨zR_fb _ _ _ _, hr, fun U hU hW => ⟨rfl, by rw [hU]; exact hP, va_K.moved hW.alike hK⟩⟩
theorem zM_S {s : State} {H : Heap} {As : List Value} {D : va_G} {ws : va_W} {tys : List (ClassId × FieldType)} {A : Nat → Prop} (hP : va_P D vwCl ws H) (hK : va_K D vwCl tys s) (hD : va_D A ws) : PreS s H (va_Pc As (zM D ws tys H.size)) As := ⟨zM_fb _ _ _ _ _, fun U hU hW => ⟨rfl, by rw [hU], by rw [hU]; exact hP, va_K.moved hW.alike hK, hD.weaken (fun _ _ _ _ => trivial)⟩⟩
theorem zM_V {s : State} {H : Heap} {C : String} {b : Addr} {As : List Value} {D : va_G} {ws : va_W} {tys : List (ClassId × FieldType)} {A : Nat → Prop} (hr : ∃ cellB : Cell, H[b]? = some cellB ∧ cellB.vm.isStatics = false ∧ s.vm.findClass C = some cellB.cls) (hP : va_P D vwCl ws H) (hK : va_K D vwCl tys s) (hD : va_D A ws) : PreV s H C b (va_Pc (.ref b :: As) (zM D ws tys H.size)) As := ⟨zM_fb _ _ _ _ _, hr, fun U hU hW => ⟨rfl, by rw [hU], by rw [hU]; exact hP, va_K.moved hW.alike hK, hD.weaken (fun _ _ _ _ => trivial)⟩⟩
/-- what a method leaves behind: a world, apart and its own -/
def zE (D : va_G) (ws : va_W) (tys : List (ClassId × FieldType)) (A : Nat → Prop) (t : State) : Prop := va_P D vwCl ws t.heap ∧ va_K D vwCl tys t ∧ va_D A ws
theorem zE_of {D : va_G} {ws : va_W} {tys : List (ClassId × FieldType)} {A : Nat → Prop} {s t : State} {H : Heap} (hP : va_P D vwCl ws H) (hK : va_K D vwCl tys s) (hD : va_D A ws) (ht : t.heap = H) (hW : s.WarmedH t.vm) : zE D ws tys A t := ⟨by rw [ht]; exact hP, va_K.moved hW.alike hK, hD⟩
theorem va_P.zkept {D : va_G} {cl : List vw_C} {ws : va_W} {H H1 : Heap} (hP : va_P D cl ws H) (hk : ∀ q : Nat, q < H.size → ¬ False → H1[q]? = H[q]?) : va_P D cl ws H1 := fun k q hq => (hP k q hq).kept (hk q.1 (hP k q hq).lt not_false)
theorem fa_lt (a b : Int32) : a < b ↔ a.toInt < b.toInt := Int32.lt_iff_toInt_lt
theorem fa_le (a b : Int32) : a ≤ b ↔ a.toInt ≤ b.toInt := Int32.le_iff_toInt_le
theorem fa_eq (a b : Int32) : a = b ↔ a.toInt = b.toInt := Int32.toInt_inj.symm
theorem zM_I {s : State} {H : Heap} {b : Addr} {As : List Value} {D : va_G} {ws : va_W} {tys : List (ClassId × FieldType)} {A : Nat → Prop} (hP : va_P D vwCl ws H) (hK : va_K D vwCl tys s) (hD : va_D A ws) : PreS s H (va_Pc (.ref b :: As) (zM D ws tys H.size)) (.ref b :: As) := zM_S hP hK hD
/-- the reference's object: a tells its addresses, i its numbers -/
def zMo (a : Nat → Nat) (i : Nat → Int32) : List Value := [.int (i 0), .ref (a 1), .ref (a 2), .ref (a 3), .ref (a 4), .int (i 5), .ref (a 6), .int (i 7), .int (i 8), .int (i 9), .ref (a 10), .ref (a 11), .int (i 12), .ref (a 13), .int (i 14), .int (i 15), .int (i 16), .int (i 17), .ref (a 18), .ref (a 19), .ref (a 20), .ref (a 21), .ref (a 22), .int (i 23), .int (i 24)]
def zI0 : Nat → Int32 := fun _ => 0
theorem zreg_in {k : Int32} (h0 : 0 ≤ k.toInt) (h9 : k.toInt ≤ 9) : vp_in (13 + 41 * k) 6792 := by
  obtain ⟨j, hj, rfl⟩ := vp_in_of (n := 10) (vp_in_iff.mpr ⟨h0, by omega⟩) (by decide)
  have e : (13 : Int32) + 41 * nI j = nI (13 + 41 * j) := by
    show nI 13 + nI 41 * nI j = _
    rw [pk_mul, nI_add]
  rw [e]
  exact vp_in_nI (by omega) (by decide)
theorem zch_in {k : Int32} (h0 : 0 ≤ k.toInt) (h9 : k.toInt ≤ 3) : vp_in (4772 + 505 * k) 6792 := by
  obtain ⟨j, hj, rfl⟩ := vp_in_of (n := 4) (vp_in_iff.mpr ⟨h0, by omega⟩) (by decide)
  have e : (4772 : Int32) + 505 * nI j = nI (4772 + 505 * j) := by
    show nI 4772 + nI 505 * nI j = _
    rw [pk_mul, nI_add]
  rw [e]
  exact vp_in_nI (by omega) (by decide)
