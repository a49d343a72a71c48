abbrev cX0_init : ByteArray := prog_2_method_1_code
def yX0_init : MethodName := ⟨RX0, "<init>", "()V"⟩
abbrev cX3_init : ByteArray := prog_5_method_1_code
def yX3_init : MethodName := ⟨RX3, "<init>", "()V"⟩
abbrev cX1_init : ByteArray := prog_3_method_1_code
def yX1_init : MethodName := ⟨RX1, "<init>", "()V"⟩
abbrev cX6_init : ByteArray := prog_8_method_1_code
def yX6_init : MethodName := ⟨RX6, "<init>", "()V"⟩
abbrev cX5_init : ByteArray := prog_7_method_1_code
def yX5_init : MethodName := ⟨RX5, "<init>", "()V"⟩
def zStr : List (Nat × String) := [(497, "a number is out of range"), (93, "there are 4 signs"), (501, "there is none with this number"), (508, "the register is empty"), (142, "the term would be greater than 40"), (158, "the text has an error"), (504, "the name is taken, or there are 20 laws"), (510, "there is no such law"), (196, "the law was proved, or a law rests on it"), (203, "a variable of the condition stands in none of the terms"), (237, "the name is taken, or there are 4 equivalences"), (251, "3 assumptions are open"), (512, "no assumption is open"), (514, "the chain proves nothing"), (275, "a variable of the assumption stands in neither line"), (283, "the laws are no two cases"), (299, "the law is no instance of the line"), (303, "there is no such law or equivalence"), (315, "a term of the law would be greater than 40"), (506, "the chain has no line, or 12"), (341, "there is no such law or assumption"), (350, "the step is not right"), (357, "a chain has no line, or there would be more than 12"), (363, "the lines are not the same term"), (369, "the last line is ahead of the first one"), (382, "the 1001st term would be found"), (384, "there is no such chain"), (390, "no image was kept there"), (396, "there is no change to undo"), (401, "the text would have more than 200 bytes"), (412, "there is no such character")]
def zNest : List (String × Nat × MethodName) := [(RX8, 60, yX0_init), (RX11, 58, yX3_init), (RX11, 65, yX1_init), (RX1, 11, yX3_init), (RX11, 72, yX6_init), (RX6, 11, yX3_init), (RX11, 79, yX5_init), (RX11, 322, yX0_init), (RX6, 178, yX0_init)]
def zAOs : List String := [RX7, RX9, RX4, RX2, RX0, RX8]
def zExs : List String := ["java/lang/IllegalArgumentException", "java/lang/IllegalStateException", "java/lang/IndexOutOfBoundsException", "java/util/NoSuchElementException"]
def zDecl : List MethodName := [⟨"java/lang/RuntimeException", "<init>", "()V"⟩, ⟨"java/lang/RuntimeException", "<init>", "(Ljava/lang/String;)V"⟩, ⟨"java/lang/Exception", "<init>", "()V"⟩, ⟨"java/lang/Exception", "<init>", "(Ljava/lang/String;)V"⟩, ⟨"java/lang/Throwable", "<init>", "()V"⟩, ⟨"java/lang/Throwable", "<init>", "(Ljava/lang/String;)V"⟩]
/-- what the tables say besides the words that are handed on -/
def zTab (U : State) : Prop := (∀ q ∈ zNest, va_Nw (.methodLinkNest q.1 q.2.1 q.2.2 "Chainwork") U) ∧ (∀ C ∈ zAOs, va_AO C U) ∧ va_AOA .int U ∧ (∀ E ∈ zExs, va_Nw (.castable E E) U) ∧ (∀ x ∈ zDecl, va_Nw (.declares x) U) ∧ ∀ q ∈ zStr, ∃ a : Nat, vk_R "Chainwork" q.1 q.2 a U
theorem zTab.warm {s U : State} (hW : s.WarmedH U.vm) (h : zTab s) : zTab U :=
  ⟨fun q hq => (h.1 q hq).warmM hW, fun C hC => (h.2.1 C hC).moved hW.alike, h.2.2.1.moved hW.alike, fun E hE => (h.2.2.2.1 E hE).warmC hW, fun x hx => (h.2.2.2.2.1 x hx).warmD hW, fun q hq => (h.2.2.2.2.2 q hq).imp fun _ h9 => h9.warm hW⟩
/-- .. and that the two statics that an exception's making reads lie outside of A -/
def zEx (A : Nat → Prop) (U : State) : Prop := zTab U ∧ vx_Zq Bundle.tN "UNASSIGNED_STACK" Bundle.steD A U U.heap ∧ vx_Zq Bundle.tN "SUPPRESSED_SENTINEL" Bundle.listD A U U.heap
theorem zEx.go {A A1 : Nat → Prop} {s U : State} {H : Heap} {locs : List Loc} (h : zEx A s) (hS : va_S A s.heap H locs) (hA : ∀ q, A1 q → A q) (hU : U.heap = H) (hW : s.WarmedH U.vm) : zEx A1 U := by
  refine ⟨h.1.warm hW, ?_, ?_⟩
  · rw [hU]; exact ((h.2.1.kept (H1 := H) fun a h1 h2 => hS.2.1 a h1 h2).moved hW.alike).narrow hA
  · rw [hU]; exact ((h.2.2.kept (H1 := H) fun a h1 h2 => hS.2.1 a h1 h2).moved hW.alike).narrow hA
theorem zEx.self {A : Nat → Prop} {U : State} (g : JFrame) (mk : MethodId) (a : Array Value) (h : zEx A U) : zEx A (U.calling g mk a) :=
  ⟨h.1.warm (State.WarmedH.refl U), h.2.1.moved (u := U) (U := U.calling g mk a) (Vm.Alike.refl U.vm), h.2.2.moved (u := U) (U := U.calling g mk a) (Vm.Alike.refl U.vm)⟩
/-- a world, the tables, and what exceptions want -/
def zW (D : va_G) (ws : va_W) (tys : List (ClassId × FieldType)) (sz : Nat) : State → Prop := fun U => zEx (va_A ws sz) U ∧ zM D ws tys sz U
theorem zW_fb (av : List Value) (D : va_G) (ws : va_W) (tys : List (ClassId × FieldType)) (sz : Nat) : FrameBlind (va_Pc av (zW D ws tys sz)) := fun a U g mk q => by
  obtain ⟨q0, qX, q1, qP, qK, qD⟩ := q
  exact ⟨q0, qX.self g mk a, q1, qP, va_K.moved (u := U) (U := U.calling g mk a) (Vm.Alike.refl U.vm) qK, qD⟩
theorem zW_S {s : State} {H : Heap} {locs : List Loc} {As : List Value} {D : va_G} {ws : va_W} {tys : List (ClassId × FieldType)} {A : Nat → Prop} (hx : zEx A s) (hS : va_S A s.heap H locs) (hF : ∀ q, va_A ws H.size q → A q) (hP : va_P D vwCl ws H) (hK : va_K D vwCl tys s) (hD : va_D A ws) : PreS s H (va_Pc As (zW D ws tys H.size)) As := ⟨zW_fb _ _ _ _ _, fun U hU hW => ⟨rfl, hx.go hS hF hU hW, by rw [hU], by rw [hU]; exact hP, va_K.moved hW.alike hK, hD.weaken (fun _ _ _ _ => trivial)⟩⟩
theorem zW_I {s : State} {H : Heap} {locs : List Loc} {b : Addr} {As : List Value} {D : va_G} {ws : va_W} {tys : List (ClassId × FieldType)} {A : Nat → Prop} (hx : zEx A s) (hS : va_S A s.heap H locs) (hF : ∀ q, va_A ws H.size q → A q) (hP : va_P D vwCl ws H) (hK : va_K D vwCl tys s) (hD : va_D A ws) : PreS s H (va_Pc (.ref b :: As) (zW D ws tys H.size)) (.ref b :: As) := zW_S hx hS hF hP hK hD
theorem zW_V {s : State} {H : Heap} {locs : List Loc} {C : String} {b : Addr} {As : List Value} {D : va_G} {ws : va_W} {tys : List (ClassId × FieldType)} {A : Nat → Prop} (hr : ∃ cellB : Cell, H[b]? = some cellB ∧ cellB.vm.isStatics = false ∧ s.vm.findClass C = some cellB.cls) (hx : zEx A s) (hS : va_S A s.heap H locs) (hF : ∀ q, va_A ws H.size q → A q) (hP : va_P D vwCl ws H) (hK : va_K D vwCl tys s) (hD : va_D A ws) : PreV s H C b (va_Pc (.ref b :: As) (zW D ws tys H.size)) As := ⟨zW_fb _ _ _ _ _, hr, fun U hU hW => ⟨rfl, hx.go hS hF hU hW, by rw [hU], by rw [hU]; exact hP, va_K.moved hW.alike hK, hD.weaken (fun _ _ _ _ => trivial)⟩⟩
theorem zF_throw {A : Nat → Prop} {s t : State} {H : Heap} {locs : List Loc} (hS : va_S A s.heap H locs) (h1 : H.size ≤ t.heap.size) (h2 : ∀ q : Nat, q < H.size → t.heap[q]? = H[q]?) : va_F A s t := ⟨Nat.le_trans hS.1 h1, fun q h3 h4 => (h2 q (Nat.lt_of_lt_of_le h3 hS.1)).trans (hS.2.1 q h3 h4)⟩
theorem zAtOf {L : List Cond} {cls : String} {args : Array Value} {s : State} (h : L.all (fun w => (decide (w ∈ lw_tbl) && goodWord w) || (decide (w = .castable cls cls) || decide (w ∈ zDecl.map Cond.declares))) = true) (ht : ∀ w ∈ zT, w.before args s = true) (hc : cls ∈ zExs) (hx : zTab s) : ∀ w ∈ L, w.before args s = true := fun w hw => by
  have h1 := List.all_eq_true.mp h w hw
  simp only [Bool.or_eq_true, Bool.and_eq_true, decide_eq_true_eq] at h1
  rcases h1 with h1 | h1 | h1
  · exact ht w (List.mem_filter.mpr ⟨h1.1, h1.2⟩)
  · rw [h1]; exact va_Nw.use rfl (hx.2.2.2.1 cls hc)
  · obtain ⟨x, hx1, rfl⟩ := List.mem_map.mp h1
    exact va_Nw.use rfl (hx.2.2.2.2.1 x hx1)

