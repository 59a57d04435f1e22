/-! The words: one list for all methods, the good words of the law's tables. -/
def wA : List Cond := lw_tbl.filter goodWord
theorem kin {w : Cond} (n : Nat) (h : tables_1[n]? = some w) (g : goodWord w = true) : w ∈ wA := List.mem_filter.mpr ⟨List.mem_append_right _ (List.mem_of_getElem? h), g⟩
theorem kinp {w : Cond} (n : Nat) (h : (k2_sels lw_privs)[n]? = some w) (g : goodWord w = true) : w ∈ wA := List.mem_filter.mpr ⟨List.mem_append_left _ (List.mem_of_getElem? h), g⟩
theorem kinm {w : Cond} (h : w ∈ tables_1) (g : goodWord w = true) : w ∈ wA := List.mem_filter.mpr ⟨List.mem_append_right _ h, g⟩
theorem kins {ws : List Cond} (ps : List Nat) (h : ws = ps.filterMap (fun i => tables_1[i]?)) (g : ws.all goodWord = true) : ∀ w ∈ ws, w ∈ wA := by
  intro w hw
  refine List.mem_filter.mpr ⟨List.mem_append_right _ ?_, List.all_eq_true.mp g w hw⟩
  rw [h] at hw
  obtain ⟨i, -, hi⟩ := List.mem_filterMap.mp hw
  exact List.mem_of_getElem? hi
theorem wA_ok {w : Cond} (h : w ∈ wA) : w ∈ lw_tbl ∧ ((w.onTables && w.keeps) = true ∨ ∃ ty, w = .arrayClass ty) := ⟨(List.mem_filter.mp h).1, good_of_word (List.mem_filter.mp h).2⟩
theorem gC {c y : Cond} (h : y ∈ wA) : GoodIn (c :: wA) (y :: wA) := fun w hw => by
  have h1 : w ∈ wA := (List.mem_cons.mp hw).elim (fun e => e ▸ h) id
  exact ⟨List.mem_cons_of_mem _ h1, (wA_ok h1).2⟩
theorem gV {c cy : Cond} {own : String} {i : Nat} {C : String} {y : MethodName} (h1 : Cond.methodLink own i y ∈ wA) (h2 : Cond.instanceMethod y ∈ wA) (h3 : Cond.selects C y y ∈ wA) (h4 : Cond.initialized C ∈ wA) (h : cy ∈ wA) : GoodIn (c :: wA) (wsV own i C y (cy :: wA)) := fun w hw => by
  have h9 : w ∈ wA := by
    unfold wsV at hw
    rcases List.mem_append.mp hw with q | q
    · simp only [List.mem_cons, List.not_mem_nil, or_false] at q
      rcases q with rfl | rfl | rfl | rfl
      · exact h1
      · exact h2
      · exact h3
      · exact h4
    · exact (List.mem_cons.mp q).elim (fun e => e ▸ h) id
  exact ⟨List.mem_cons_of_mem _ h9, (wA_ok h9).2⟩
theorem gS {c cy : Cond} {own : String} {i : Nat} {y : MethodName} (h1 : Cond.methodLink own i y ∈ wA) (h2 : Cond.static y ∈ wA) (h4 : Cond.initialized y.cls ∈ wA) (h : cy ∈ wA) : GoodIn (c :: wA) (va_wsS own i y (cy :: wA)) := fun w hw => by
  have h9 : w ∈ wA := by
    unfold va_wsS at hw
    rcases List.mem_append.mp hw with q | q
    · simp only [List.mem_cons, List.not_mem_nil, or_false] at q
      rcases q with rfl | rfl | rfl
      · exact h1
      · exact h2
      · exact h4
    · exact (List.mem_cons.mp q).elim (fun e => e ▸ h) id
  exact ⟨List.mem_cons_of_mem _ h9, (wA_ok h9).2⟩
/-! Words that aren't good ones: links in a nest, casts, arrays over a class: premises of their own. -/
def xkind : Cond → Bool
  | .methodLinkNest .. => true
  | .fieldLinkNest .. => true
  | .castable .. => true
  | .declares _ => true
  | .arrayOver (.object _) => true
  | _ => false
theorem xk {s U : State} (hW : s.WarmedH U.vm) (w : Cond) (h : xkind w = true) (z : va_Nw w s) : va_Nw w U := by
  cases w with
  | methodLinkNest a b c d => exact va_Nw.warmM hW z
  | fieldLinkNest a b c d e f => exact va_Nw.warmF hW z
  | castable a b => exact va_Nw.warmC hW z
  | declares a => exact va_Nw.warmD hW z
  | arrayOver ty =>
    cases ty with
    | object C => exact va_AO.moved hW.alike z
    | _ => cases h
  | _ => cases h
def xW : List Cond := tables_1.filter xkind
def xB (U : State) : Prop := ∀ w ∈ xW, va_Nw w U
theorem xB.warm {s U : State} (hW : s.WarmedH U.vm) (h : xB s) : xB U := fun w hw => xk hW w (List.mem_filter.mp hw).2 (h w hw)
theorem xin {w : Cond} (n : Nat) (h : tables_1[n]? = some w) (g : xkind w = true) : w ∈ xW := List.mem_filter.mpr ⟨List.mem_of_getElem? h, g⟩
theorem xinm {w : Cond} (h : w ∈ tables_1) (g : xkind w = true) : w ∈ xW := List.mem_filter.mpr ⟨h, g⟩
/-! The two statics of Throwable that a throw reads: where they lie, and that they hold a reference or null. -/
def xL (C n d : String) (A : Nat → Prop) (U : State) (H : Heap) : Prop := ∃ (c : ClassId) (k : Class) (i : Nat) (f : Field) (a : Nat) (cell : Cell), U.vm.findClass C = some c ∧ U.fieldFound? C n d = some (c, k, i, f) ∧ f.isStatic = true ∧ k.statics = some a ∧ H[a]? = some cell ∧ cell.vm.isStatics = true ∧ cell.cls = c ∧ f.slot < cell.slots.size ∧ k.staticTypes[f.slot]? = some f.type ∧ ¬ A a
theorem xL.moved {C n d : String} {A : Nat → Prop} {u U : State} {H : Heap} (hvm : u.vm.Alike U.vm) (h : xL C n d A u H) : xL C n d A U H := by
  obtain ⟨c, k, i, f, a, cell, h1, h2, h3, h4, h5, h6, h7, h8, h9, h10⟩ := h
  obtain ⟨k', hi', he⟩ := State.fieldFound?_setVm hvm h2
  exact ⟨c, k', i, f, a, cell, by rw [hvm.findClass]; exact h1, hi', h3, by rw [he]; exact h4, h5, h6, h7, h8, by rw [he]; exact h9, h10⟩
theorem xL.kept {C n d : String} {A : Nat → Prop} {U : State} {H H1 : Heap} (h : xL C n d A U H) (hq : ∀ a : Nat, a < H.size → ¬ A a → H1[a]? = H[a]?) : xL C n d A U H1 := by
  obtain ⟨c, k, i, f, a, cell, h1, h2, h3, h4, h5, h6, h7, h8, h9, h10⟩ := h
  exact ⟨c, k, i, f, a, cell, h1, h2, h3, h4, by rw [hq a (Array.getElem?_eq_some_iff.mp h5).1 h10]; exact h5, h6, h7, h8, h9, h10⟩
theorem xL.narrow {C n d : String} {A B : Nat → Prop} {U : State} {H : Heap} (h : xL C n d A U H) (hAB : ∀ q, B q → A q) : xL C n d B U H := by
  obtain ⟨c, k, i, f, a, cell, h1, h2, h3, h4, h5, h6, h7, h8, h9, h10⟩ := h
  exact ⟨c, k, i, f, a, cell, h1, h2, h3, h4, h5, h6, h7, h8, h9, fun z => h10 (hAB a z)⟩
abbrev xT : String := "java/lang/Throwable"
abbrev xU : String := "UNASSIGNED_STACK"
abbrev xUd : String := "[Ljava/lang/StackTraceElement;"
abbrev xN : String := "SUPPRESSED_SENTINEL"
abbrev xNd : String := "Ljava/util/List;"
def xZ (A : Nat → Prop) (U : State) (H : Heap) : Prop := (va_Zq xT xU xUd A U H ∧ xL xT xU xUd A U H) ∧ (va_Zq xT xN xNd A U H ∧ xL xT xN xNd A U H)
theorem xZ.moved {A : Nat → Prop} {u U : State} {H : Heap} (hvm : u.vm.Alike U.vm) (h : xZ A u H) : xZ A U H := ⟨⟨va_Zq.moved hvm h.1.1, xL.moved hvm h.1.2⟩, ⟨va_Zq.moved hvm h.2.1, xL.moved hvm h.2.2⟩⟩
theorem xZ.kept {A : Nat → Prop} {U : State} {H H1 : Heap} (h : xZ A U H) (hq : ∀ a : Nat, a < H.size → ¬ A a → H1[a]? = H[a]?) : xZ A U H1 := ⟨⟨h.1.1.kept hq, h.1.2.kept hq⟩, ⟨h.2.1.kept hq, h.2.2.kept hq⟩⟩
theorem xZ.narrow {A B : Nat → Prop} {U : State} {H : Heap} (h : xZ A U H) (hAB : ∀ q, B q → A q) : xZ B U H := ⟨⟨h.1.1.narrow hAB, h.1.2.narrow hAB⟩, ⟨h.2.1.narrow hAB, h.2.2.narrow hAB⟩⟩
/-! A value on the stack under another text. -/
section GX
variable {p : Program} {l : Launch} {e : Env} {R : Room} {s : State} {m : MethodId} {args : Array Value} {below : List Frame} {meth : Method} {c : Code} {H : Heap} {locs : List Loc} {cells slots : Nat} {Q : State → Prop} {pc : Nat} {ls : Array Slot} {rest : List Value}
theorem gx_i {x v : Int32} (h : x = v) (k : W p l e R s m args below meth c H locs cells slots Q (F0 m pc ls (.int v :: rest))) : W p l e R s m args below meth c H locs cells slots Q (F0 m pc ls (.int x :: rest)) := by rw [h]; exact k
theorem gx_l {x v : Int64} (h : x = v) (k : W p l e R s m args below meth c H locs cells slots Q (F0 m pc ls (.long v :: rest))) : W p l e R s m args below meth c H locs cells slots Q (F0 m pc ls (.long x :: rest)) := by rw [h]; exact k
theorem gx_v {x v : Value} (h : x = v) (k : W p l e R s m args below meth c H locs cells slots Q (F0 m pc ls (v :: rest))) : W p l e R s m args below meth c H locs cells slots Q (F0 m pc ls (x :: rest)) := by rw [h]; exact k
end GX
theorem gx_nadd (n k : Nat) : nI n + nI k = nI (n + k) := nI_add n k
