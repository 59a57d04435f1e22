/-! A method that throws, over the state: the walk begins anew at the throw, so that what is there is kept to the cell. -/
section AG
variable {p : Program} {l : Launch} {e : Env} {R : Room} {s : State} {m : MethodId} {args : Array Value} {below : List Frame} {meth : Method} {c : Code} {T : State} {locs : List Loc} {cells slots : Nat}
def stA (s T : State) : State := { s with heap := T.heap, slotsUsed := T.slotsUsed, vm := T.vm }
theorem stA_hears (hv : s.vm.Alike T.vm) (h : s.hears m below = true) : (stA s T).hears m below = true := by
  have e1 : ∀ y, (stA s T).code? y = s.code? y := fun y => State.code?_setVm (s := s) (vm' := T.vm) hv y
  have e2 : ∀ y, (stA s T).vm.method? y = s.vm.method? y := fun y => hv.method? y
  cases below with
  | nil =>
    unfold State.hears at h ⊢
    rw [e2]
    exact h
  | cons f r =>
    cases f with
    | java g =>
      show (((stA s T).code? g.method).bind fun c => (decode c.code g.pc).toOption).isSome = true
      rw [e1]
      exact h
    | native g => rfl
    | proc g => rfl
    | _ =>
      unfold State.hears at h ⊢
      simp only [e2] at h ⊢
      exact h
theorem stA_locals (X : Stand p l e R s m args below meth c T locs cells slots) : (stA s T).localsInUse = s.localsInUse := by
  have e1 : (stA s T).frames = .invoking m args :: below := X.frames
  unfold State.localsInUse
  rw [e1, X.frames]
  have e2 : (stA s T).vm.method? m = some meth := X.method'
  simp only [e2, X.method]
theorem st_again (X : Stand p l e R s m args below meth c T locs cells slots) (hk : cells ≤ R.cells) (hn : slots ≤ R.slots) :
    Stand p l e { frames := R.frames, cells := R.cells - cells, slots := R.slots - slots, locals := R.locals } (stA s T) m args below meth c T [] 0 0 := by
  have h1 := X.heapSize
  have h2 := X.used
  have h3 := X.book
  refine ⟨X.admits, X.cas, X.clock, X.frames, ?_, stA_hears X.warmed.alike X.hears, X.method', X.code, X.here, X.tail, State.WarmedH.refl (stA s T), X.limits, X.bytes, ?_⟩
  · have h := X.room
    simp only [State.hasRoom, Bool.and_eq_true, decide_eq_true_eq] at h ⊢
    rw [stA_locals X]
    obtain ⟨⟨⟨⟨a1, a2⟩, a3⟩, a4⟩, a5⟩ := h
    refine ⟨⟨⟨⟨a1, a2⟩, ?_⟩, ?_⟩, h3⟩
    · show T.heap.size + (R.cells - cells) ≤ _
      omega
    · show T.slotsUsed + (R.slots - slots) ≤ _
      omega
  · have a1 := congrArg (fun z : State => ({ z with vm := T.vm } : State)) X.same.1
    refine ⟨a1, Nat.le_refl _, Nat.le_refl _, ?_, ?_, fun a c h => ⟨c, h, rfl, rfl, fun _ _ => rfl⟩⟩
    · have e1 : List.drop T.heap.size T.heap.toList = [] := List.drop_eq_nil_of_le (by simp)
      show T.slotsUsed = T.slotsUsed + ((List.drop T.heap.size T.heap.toList).map _).sum
      rw [e1]
      rfl
    · have e1 : List.drop T.heap.size T.heap.toList = [] := List.drop_eq_nil_of_le (by simp)
      show ((List.drop T.heap.size T.heap.toList).map _).sum ≤ 0
      rw [e1]
      exact Nat.le_refl 0
/-- 'throw new E()' at a walk's very beginning -/
theorem xthrow2 {cc : ByteArray} {pc : Nat} {ls : Array Slot} {own cls : String} {names : List String} {ik ic : Nat} (hexec : p.tables.exec = Jvm.exec) (hb : c.code = cc) (hst : l.stackTraces = false)
    (hown : s.vm.findClass own = some m.cls) (hcls : Bundle.fit cls = true) (hnames : ∀ n ∈ names, Bundle.fit n = true)
    (hk : (Cond.classLink own ik cls).before args s = true) (hini : (Cond.initialized cls).before args s = true) (hins : (Cond.instantiable cls 6).before args s = true) (hat : ∀ w ∈ Bundle.ownAtoms0 own ic cls names, w.before args s = true)
    (hsize : ls.size = c.maxLocals)
    (d0 : decode cc pc = .ok (.new ik, 3)) (d3 : decode cc (pc + 3) = .ok (.dup, 1)) (d4 : decode cc (pc + 4) = .ok (.invokespecial ic, 3)) (d7 : decode cc (pc + 7) = .ok (.athrow, 1)) (hnone : c.exceptionTable.isEmpty = true)
    (hfr : names.length + 3 < R.frames) (hlo : 13 * (names.length + 1) + 42 ≤ R.locals) (hc : 1 ≤ R.cells) (hs : 6 ≤ R.slots) (hlocks : meth.locks = false) :
    W p l e R s m args below meth c s.heap [] 0 0 (fun U => U.status = .running ∧ Ended U below (.threw s.heap.size) ∧ s.WarmedH U.vm ∧ s.sameButNew ({ U with vm := s.vm } : State) [] 1 6 ∧ ∃ ce : Cell, U.heap[s.heap.size]? = some ce ∧ ce.vm = .none ∧ s.vm.findClass cls = some ce.cls) (F0 m pc ls []) := by
  refine W.newc hexec hb hown hk hins hini rfl d0 (by omega) (by omega) (fun cC kC h1 h2 h3 h4 => ?_)
  refine W.eq (g2 := F0 m (pc + 3) ls (.ref s.heap.size :: [])) rfl ?_
  refine lv_dup hexec hb d3 rfl ?_
  intro T hT X
  have htr : e.platform.stackTraces = false := by
    have h9 : e.platform.stackTraces = l.stackTraces := by rw [X.admits.platform]
    rw [h9]; exact hst
  have hcell : T.heap[s.heap.size]? = some (freshCell cC kC) := by rw [hT]; exact Array.getElem?_push_size
  have hout : ∀ x ∈ c.exceptionTable.toList, covers x (pc + 4 + 3) = false := by
    intro x hx
    rw [Array.isEmpty_iff.mp hnone] at hx
    cases hx
  obtain ⟨U, st, hrun, hend, hW, hsame, ce, hce, hoc⟩ := X.ctorThrow0 hexec htr (own := own) (cls := cls) (names := names) (ic := ic) hown hcls hnames hat (fun x hx => nomatch hx) h1 h2 hcell (Nat.le_refl _) (g := F0 m (pc + 4) ls (.ref s.heap.size :: .ref s.heap.size :: [])) rfl hsize rfl rfl (rest := []) rfl (by rw [hb]; exact d4) (by rw [hb]; exact d7) hout hfr
    (show 2 * 0 + (1 + 0) + (13 * (names.length + 1) + 41) ≤ R.locals by omega) hlocks
  exact ⟨U, st, hrun, hend, hW, hsame.mono (by omega) (by omega), ce, hce, hoc.vm, hoc.cls⟩
end AG
/-- behind a throw: what is there stays, one object more -/
def QxT (P : PP) (L : List Nat) (q : PL) (n : Nat × Nat) (s' : S1) (st t : State) : Prop := ∃ q' : PL, Exq P L q q' ∧ Rmq P q' (n.1 - 1, n.2 - 6) ∧ Wd P q' s' t.heap ∧ va_F (fun a => P.1 ≤ a) st t
def RtT (X : Cx) (E : String) (L : List Nat) (q : PL) (n : Nat × Nat) (s' : S1) : Prop := xq X = MQX (xb X) E (QxT (xP X) L q n s') (xa X) (xs X) (cC (xP X) (xs X).heap.size) (cS (xP X) (tot (xs X).heap)) (fun a => (xP X).1 ≤ a)
/-- which exceptions are none of another kind -/
def N3 (U : State) : Prop := va_Nc "java/lang/IllegalStateException" "java/lang/UnsupportedOperationException" U ∧ va_Nc "java/lang/IllegalStateException" "java/lang/IllegalArgumentException" U ∧ va_Nc "java/lang/IllegalArgumentException" "java/lang/IndexOutOfBoundsException" U
theorem N3.moved {u U : State} (hvm : u.vm.Alike U.vm) (h : N3 u) : N3 U := ⟨va_Nc.moved hvm h.1, va_Nc.moved hvm h.2.1, va_Nc.moved hvm h.2.2⟩
def PeZ (P : PP) (q : PL) (s : S1) : State → Prop := fun U => Pe P q s U ∧ xZ (fun a => P.1 ≤ a) U U.heap ∧ N3 U
/-- the contract of a method that throws -/
def CtT (l : Launch) (y : MethodName) (cc : ByteArray) (nL : Nat) (ret : Option FieldType) (fr lo : Nat) (P : PP) (L : List Nat) (q : PL) (s : S1) (argv : List Value) (E : String) (n' : Nat × Nat) (s' : S1) : Prop :=
  MetX l y (Cond.code y cc nL ret :: wA) { frames := fr, cells := cC P q.2.1, slots := cS P q.2.2, locals := lo } (va_Pc argv (PeZ P q s)) E (QxT P L q n' s') (cC P q.2.1) (cS P q.2.2) (fun a => P.1 ≤ a)
/-- what a walk of a throwing method stands on beside the rest -/
def Hx (X : Cx) : Prop := (xl X).stackTraces = false ∧ (xc X).exceptionTable.isEmpty = true ∧ xZ (fun a => (xP X).1 ≤ a) (xs X) (xs X).heap
theorem ctT_of {l : Launch} {y : MethodName} {cc : ByteArray} {nL : Nat} {ret : Option FieldType} {fr lo : Nat} {P : PP} {L : List Nat} {q : PL} {s : S1} {argv : List Value} {E : String} {n' : Nat × Nat} {s' : S1}
    (hst : l.stackTraces = false) (hy : plainName y.cls = true) (hn : (lg_sl argv).length ≤ nL)
    (k : ∀ (X : Cx) (ls : Array Slot), xP X = P → xl X = l → Gd X y cc nL ret fr lo y.cls → Hx X → RtT X E L q n' s' → lv_has ls nL (lv_args 0 argv) → WW X q s 0 ls []) : CtT l y cc nL ret fr lo P L q s argv E n' s' := by
  refine MetX.ofW (cc := cc) (maxL := nL) (ret := ret) hy rfl ?_
  intro p e s0 m args below meth c s₁ B hml hex hv
  obtain ⟨rfl, ⟨hW, hK⟩, hZ, -⟩ := hv
  have hts := atoms_spec (ws := Cond.code y cc nL ret :: wA) B.pre
  have e1 : s0.heap.size = q.2.1 := hW.1
  have e2 : tot s0.heap = q.2.2 := hW.2.1
  have hl := lv_entry argv (n := nL) hn
  rw [lg_entry_eq]
  have z := k ((p, l, e, (headSpec (Cond.code y cc nL ret :: wA) { frames := fr, cells := cC P q.2.1, slots := cS P q.2.2, locals := lo }).room, s0, m), (argv.toArray, below, meth, c), MQX below E (QxT P L q n' s') argv.toArray s0 (cC P q.2.1) (cS P q.2.2) (fun a => P.1 ≤ a), P) _ rfl rfl
    ⟨⟨B.exec, B.bytes⟩, hml, findClass_of_methodNamed B.named, hts, hK, ⟨rfl, rfl, by show cC P q.2.1 = cC P s0.heap.size; rw [e1], by show cS P q.2.2 = cS P (tot s0.heap); rw [e2]⟩, B.returns, B.notSynchronized⟩ ⟨hst, hex, hZ⟩
    (by unfold RtT; show MQX _ _ _ _ _ _ _ _ = MQX _ _ _ _ _ (cC P s0.heap.size) (cS P (tot s0.heap)) _; rw [e1, e2]) hl s0.heap [] hW va_S.rf
  exact w_tight (by omega) (by omega) z
theorem Wd.more {P : PP} {q q' : PL} {s : S1} {H H1 : Heap} (h : Wd P q s H) (e : q'.1 = q.1) (hz : H1.size = q'.2.1) (ht : tot H1 = q'.2.2) (hcap : q'.2.1 ≤ P.2.2.2.1 ∧ q'.2.2 ≤ P.2.2.2.2) (hc : ∀ (a : Nat) (c : Cell), H[a]? = some c → H1[a]? = some c) : Wd P q' s H1 := by
  obtain ⟨h1, h2, h3, h4, h5, h6, h7, h8, h9⟩ := h
  have hcell : ∀ r i, prs s r i → H1[q.1 r i]? = H[q.1 r i]? := fun r i hp => by
    have := cellAt_lt (h3 r i hp).1
    rw [Array.getElem?_eq_getElem this]
    exact hc _ _ (Array.getElem?_eq_getElem this)
  have efv : ∀ r i, fv q' s r i = fv q s r i := fun r i => by
    funext k
    unfold fv vr
    rw [e]
  have eav : ∀ r i, av q' s r i = av q s r i := fun r i => by
    funext k
    unfold av
    rw [e]
  refine ⟨hz, ht, fun r i hp => ?_, fun r1 i1 r2 i2 a b z => h4 r1 i1 r2 i2 a b (by rw [e] at z; exact z), hcap.1, hcap.2, h7, fun r i a b z => h8 r i a b (by rw [e] at z; exact z), h9⟩
  obtain ⟨c1, c2, c3⟩ := h3 r i hp
  refine ⟨?_, by rw [e]; exact c2, c3⟩
  unfold cellAt at c1 ⊢
  rw [e]
  by_cases h0 : rkF r = 0
  · rw [if_pos h0] at c1 ⊢
    rw [efv]
    exact c1.kept (hcell r i hp)
  · rw [if_neg h0] at c1 ⊢
    rw [hcell r i hp, c1]
    unfold avP
    rw [eav]
theorem good_at {w : Cond} {a a' : Array Value} {s U : State} (hW : s.WarmedH U.vm) (hw : w ∈ wA) (h : w.before a s = true) : w.before a' U = true := by
  obtain ⟨-, hz⟩ := (gC (c := w) hw) w List.mem_cons_self
  exact word_at hW hz h
theorem ww_throw {X : Cx} {q : PL} {s : S1} {y : MethodName} {cc : ByteArray} {nL : Nat} {ret : Option FieldType} {fr lo : Nat} {own : String} {pc : Nat} {ls : Array Slot} {E : String} {L : List Nat} {q0 : PL} {n : Nat × Nat} {s' : S1} {names : List String} {ik ic : Nat}
    (g : Gd X y cc nL ret fr lo own) (hX : Hx X) (hR : RtT X E L q0 n s') (hs : s = s') (hx0 : Exq (xP X) L q0 q) (hm : Rmq (xP X) q n) (hn : 1 ≤ n.1 ∧ 6 ≤ n.2) (hsz : ls.size = nL)
    (hcls : Bundle.fit E = true) (hnames : ∀ n ∈ names, Bundle.fit n = true) (hk : Cond.classLink own ik E ∈ wA) (hini : Cond.initialized E ∈ wA) (hins : Cond.instantiable E 6 ∈ wA)
    (h1 : ∀ w ∈ (Bundle.ownAtoms0 own ic E names).filter goodWord, w ∈ wA) (h2 : ∀ w ∈ (Bundle.ownAtoms0 own ic E names).filter (fun w => !goodWord w), w ∈ xFour ∨ (w ∈ xW ∧ w.onTables = true))
    (d0 : decode cc pc = .ok (.new ik, 3)) (d3 : decode cc (pc + 3) = .ok (.dup, 1)) (d4 : decode cc (pc + 4) = .ok (.invokespecial ic, 3)) (d7 : decode cc (pc + 7) = .ok (.athrow, 1))
    (hfr : names.length + 3 < fr) (hlo : 13 * (names.length + 1) + 42 ≤ lo) : WW X q s pc ls [] := by
  subst hs
  intro H locs hW hS
  refine w_grow fun z1 z2 => ?_
  refine w_tight (k := H.size - (xs X).heap.size) (n := tot H - tot (xs X).heap) (by omega) (by omega) ?_
  have e1 := hW.1
  have e2 := hW.2.1
  obtain ⟨e3, e4, -⟩ := hW.2.2.2.2
  obtain ⟨⟨hx, hb⟩, hml, hown, hts, hK, ⟨hR1, hR2, hR3, hR4⟩, -, hlk⟩ := g
  obtain ⟨hst, hex, hZ⟩ := hX
  obtain ⟨m1, m2⟩ := hm
  have f1 : H.size - (xs X).heap.size + 1 ≤ cC (xP X) (xs X).heap.size := by unfold cC; omega
  have f2 : tot H - tot (xs X).heap + 6 ≤ cS (xP X) (tot (xs X).heap) := by unfold cS; omega
  intro T hT Xs
  have X2 := st_again Xs (by rw [hR3]; omega) (by rw [hR4]; omega)
  have hwm : (xs X).WarmedH (stA (xs X) T).vm := Xs.warmed
  have hall : ∀ w ∈ wA, w.before (xa X) (stA (xs X) T) = true := fun w hw => good_at hwm hw (hts w (List.mem_cons_of_mem _ hw))
  have hZ2 : xZ (fun a => (xP X).1 ≤ a) (stA (xs X) T) (stA (xs X) T).heap := by
    show xZ _ _ T.heap
    rw [hT]
    exact xZ.moved (u := xs X) hwm.alike (hZ.kept hS.2.1)
  have hw := xthrow2 (p := xp X) (l := xl X) (e := xe X) (R := { frames := (xR X).frames, cells := (xR X).cells - (H.size - (xs X).heap.size), slots := (xR X).slots - (tot H - tot (xs X).heap), locals := (xR X).locals }) (s := stA (xs X) T) (m := xm X) (args := xa X) (below := xb X) (meth := xh X) (c := xc X) (pc := pc) (ls := ls) (own := own) (cls := E) (names := names) (ik := ik) (ic := ic) hx hb hst
    (by rw [hwm.alike.findClass]; exact hown) hcls hnames (hall _ hk) (hall _ hini) (hall _ hins) (xat (fun w h => hall w (h1 w h)) h2 (xB.warm hwm hK.2.2.1) hZ2) (by rw [hml]; exact hsz) d0 d3 d4 d7 hex (by show _ < (xR X).frames; rw [hR1]; exact hfr) (by show _ ≤ (xR X).locals; rw [hR2]; exact hlo)
    (by show 1 ≤ (xR X).cells - _; rw [hR3]; omega) (by show 6 ≤ (xR X).slots - _; rw [hR4]; omega) hlk
  obtain ⟨U, st, hrun, hend, hW2, hsame, ce, hce, hcv, hcc⟩ := hw T rfl X2
  have hh : (stA (xs X) T).heap = H := hT
  rw [hh] at hend hce
  obtain ⟨a1, a2, a3, a4, a5, a6⟩ := hsame
  have b2 : H.size ≤ U.heap.size := by rw [← hT]; exact a2
  have b3 : U.heap.size ≤ H.size + 1 := by rw [← hT]; exact a3
  have a6' : ∀ (a : Nat) (d : Cell), H[a]? = some d → U.heap[a]? = some d := fun a d hd => by
    rw [← hh] at hd
    obtain ⟨d', q1, q2, q3, q4⟩ := a6 a d hd
    have : d'.slots = d.slots := Array.ext_getElem? fun i => q4 i (by simp)
    rw [this] at q2
    rw [q2] at q1
    exact q1
  have htt : tot U.heap ≤ tot H + 6 ∧ tot H ≤ tot U.heap := by
    have s1 := tot_split U.heap H.size
    have s2 : (U.heap.toList.take H.size).map (fun c : Cell => c.slots.size) = H.toList.map (fun c : Cell => c.slots.size) := tot_take fun a c hc => ⟨c, a6' a c hc, rfl⟩
    have a5' : ((U.heap.toList.drop H.size).map (fun c : Cell => c.slots.size)).sum ≤ 6 := by rw [← hT]; exact a5
    rw [s2] at s1
    have s3 : tot H = (H.toList.map (fun c : Cell => c.slots.size)).sum := rfl
    omega
  refine ⟨U, st, ?_⟩
  rw [hR]
  have hWar : (xs X).WarmedH U.vm := State.WarmedH.trans hwm hW2
  refine ⟨.threw H.size, hrun, hend, H.size, locs ++ [], rfl, ⟨ce, hce, hcv, by rw [hwm.alike.findClass] at hcc; exact hcc⟩, ⟨(q.1, U.heap.size, tot U.heap), hx0, ⟨by show U.heap.size + (n.1 - 1) + _ ≤ _; omega, by show tot U.heap + (n.2 - 6) + _ ≤ _; omega⟩, hW.more rfl rfl rfl ⟨by show U.heap.size ≤ _; omega, by show tot U.heap ≤ _; omega⟩ a6', ?_⟩, hWar, ?_, ?_⟩
  · refine ⟨Nat.le_trans hS.1 b2, fun a ha hn9 => ?_⟩
    have h8 := hS.2.1 a ha hn9
    rw [← h8]
    rw [Array.getElem?_eq_getElem (Nat.lt_of_lt_of_le ha hS.1)]
    exact a6' a _ (Array.getElem?_eq_getElem (Nat.lt_of_lt_of_le ha hS.1))
  · have hc1 : ({ U with vm := T.vm } : State) = { T.setFrames U.frames with heap := U.heap, slotsUsed := U.slotsUsed } := by
      have t0 := congrArg (fun z : State => z.setFrames U.frames) X2.same.1
      have t1 : (({ (stA (xs X) T).setFrames T.frames with heap := T.heap, slotsUsed := T.slotsUsed } : State)).setFrames U.frames = { ((stA (xs X) T).setFrames T.frames).setFrames U.frames with heap := T.heap, slotsUsed := T.slotsUsed } := rfl
      rw [State.setFrames_setFrames] at t1
      have t2 : T.setFrames U.frames = { (stA (xs X) T).setFrames U.frames with heap := T.heap, slotsUsed := T.slotsUsed } := t0.trans t1
      rw [t2]
      exact a1
    have hT2 : T.sameButNew ({ U with vm := T.vm } : State) [] 1 6 := ⟨hc1, a2, a3, a4, a5, a6⟩
    exact (Xs.same.trans (hT2.setVm (xs X).vm)).mono f1 f2
  · intro z hz
    rw [List.append_nil] at hz
    exact hS.2.2 z hz
