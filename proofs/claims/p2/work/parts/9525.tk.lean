/-! Throws that are paid by what is kept for others. -/
def RmK (P : PP) (q : PL) (n : Nat × Nat) : Prop := q.2.1 + n.1 + P.2.2.1 3000 ≤ P.2.2.2.1 + 1 ∧ q.2.2 + n.2 + P.2.2.1 3001 ≤ P.2.2.2.2 + 6

def QxK (P : PP) (L : List Nat) (q : PL) (n : Nat × Nat) (s' : S1) (st t : State) : Prop := ∃ q' : PL, Exq P L q q' ∧ RmK P q' n ∧ Wd P q' s' t.heap ∧ va_F (fun a => P.1 ≤ a) st t
def RtK (X : Cx) (E : String) (L : List Nat) (q : PL) (n : Nat × Nat) (s' : S1) : Prop := xq X = MQX (xb X) E (QxK (xP X) L q n s') (xa X) (xs X) (cC (xP X) (xs X).heap.size) (cS (xP X) (tot (xs X).heap)) (fun a => (xP X).1 ≤ a)
/-- the contract of a method that throws -/
def CtK (l : Launch) (y : MethodName) (cc : ByteArray) (nL : Nat) (ret : Option FieldType) (fr lo : Nat) (P : PP) (L : List Nat) (q : PL) (s : S1) (argv : List Value) (E : String) (n' : Nat × Nat) (s' : S1) : Prop :=
  MetX l y (Cond.code y cc nL ret :: wA) { frames := fr, cells := cC P q.2.1, slots := cS P q.2.2, locals := lo } (va_Pc argv (PeZ P q s)) E (QxK P L q n' s') (cC P q.2.1) (cS P q.2.2) (fun a => P.1 ≤ a)
theorem ctK_of {l : Launch} {y : MethodName} {cc : ByteArray} {nL : Nat} {ret : Option FieldType} {fr lo : Nat} {P : PP} {L : List Nat} {q : PL} {s : S1} {argv : List Value} {E : String} {n' : Nat × Nat} {s' : S1}
    (hst : l.stackTraces = false) (hy : plainName y.cls = true) (hn : (lg_sl argv).length ≤ nL)
    (k : ∀ (X : Cx) (ls : Array Slot), xP X = P → xl X = l → Gd X y cc nL ret fr lo y.cls → Hx X → RtK X E L q n' s' → lv_has ls nL (lv_args 0 argv) → WW X q s 0 ls []) : CtK l y cc nL ret fr lo P L q s argv E n' s' := by
  refine MetX.ofW (cc := cc) (maxL := nL) (ret := ret) hy rfl ?_
  intro p e s0 m args below meth c s₁ B hml hex hv
  obtain ⟨rfl, ⟨hW, hK⟩, hZ, -⟩ := hv
  have hts := atoms_spec (ws := Cond.code y cc nL ret :: wA) B.pre
  have e1 : s0.heap.size = q.2.1 := hW.1
  have e2 : tot s0.heap = q.2.2 := hW.2.1
  have hl := lv_entry argv (n := nL) hn
  rw [lg_entry_eq]
  have z := k ((p, l, e, (headSpec (Cond.code y cc nL ret :: wA) { frames := fr, cells := cC P q.2.1, slots := cS P q.2.2, locals := lo }).room, s0, m), (argv.toArray, below, meth, c), MQX below E (QxK P L q n' s') argv.toArray s0 (cC P q.2.1) (cS P q.2.2) (fun a => P.1 ≤ a), P) _ rfl rfl
    ⟨⟨B.exec, B.bytes⟩, hml, findClass_of_methodNamed B.named, hts, hK, ⟨rfl, rfl, by show cC P q.2.1 = cC P s0.heap.size; rw [e1], by show cS P q.2.2 = cS P (tot s0.heap); rw [e2]⟩, B.returns, B.notSynchronized⟩ ⟨hst, hex, hZ⟩
    (by unfold RtK; show MQX _ _ _ _ _ _ _ _ = MQX _ _ _ _ _ (cC P s0.heap.size) (cS P (tot s0.heap)) _; rw [e1, e2]) hl s0.heap [] hW va_S.rf
  exact w_tight (by omega) (by omega) z
theorem ww_throwK {X : Cx} {q : PL} {s : S1} {y : MethodName} {cc : ByteArray} {nL : Nat} {ret : Option FieldType} {fr lo : Nat} {own : String} {pc : Nat} {ls : Array Slot} {E : String} {L : List Nat} {q0 : PL} {n : Nat × Nat} {s' : S1} {names : List String} {ik ic : Nat}
    (g : Gd X y cc nL ret fr lo own) (hX : Hx X) (hR : RtK X E L q0 n s') (hs : s = s') (hx0 : Exq (xP X) L q0 q) (hm : Rmq (xP X) q n) (hn : 1 ≤ (xP X).2.2.1 3000 ∧ 6 ≤ (xP X).2.2.1 3001) (hsz : ls.size = nL)
    (hcls : Bundle.fit E = true) (hnames : ∀ n ∈ names, Bundle.fit n = true) (hk : Cond.classLink own ik E ∈ wA) (hini : Cond.initialized E ∈ wA) (hins : Cond.instantiable E 6 ∈ wA)
    (h1 : ∀ w ∈ (Bundle.ownAtoms0 own ic E names).filter goodWord, w ∈ wA) (h2 : ∀ w ∈ (Bundle.ownAtoms0 own ic E names).filter (fun w => !goodWord w), w ∈ xFour ∨ (w ∈ xW ∧ w.onTables = true))
    (d0 : decode cc pc = .ok (.new ik, 3)) (d3 : decode cc (pc + 3) = .ok (.dup, 1)) (d4 : decode cc (pc + 4) = .ok (.invokespecial ic, 3)) (d7 : decode cc (pc + 7) = .ok (.athrow, 1))
    (hfr : names.length + 3 < fr) (hlo : 13 * (names.length + 1) + 42 ≤ lo) : WW X q s pc ls [] := by
  subst hs
  intro H locs hW hS
  refine w_grow fun z1 z2 => ?_
  refine w_tight (k := H.size - (xs X).heap.size) (n := tot H - tot (xs X).heap) (by omega) (by omega) ?_
  have e1 := hW.1
  have e2 := hW.2.1
  obtain ⟨e3, e4, -⟩ := hW.2.2.2.2
  obtain ⟨⟨hx, hb⟩, hml, hown, hts, hK, ⟨hR1, hR2, hR3, hR4⟩, -, hlk⟩ := g
  obtain ⟨hst, hex, hZ⟩ := hX
  obtain ⟨m1, m2⟩ := hm
  have hn1 : @LE.le Nat _ 1 ((xP X).2.2.1 3000) := hn.1
  have hn2 : @LE.le Nat _ 6 ((xP X).2.2.1 3001) := hn.2
  have f1 : H.size - (xs X).heap.size + 1 ≤ cC (xP X) (xs X).heap.size := by unfold cC; omega
  have f2 : tot H - tot (xs X).heap + 6 ≤ cS (xP X) (tot (xs X).heap) := by unfold cS; omega
  intro T hT Xs
  have X2 := st_again Xs (by rw [hR3]; omega) (by rw [hR4]; omega)
  have hwm : (xs X).WarmedH (stA (xs X) T).vm := Xs.warmed
  have hall : ∀ w ∈ wA, w.before (xa X) (stA (xs X) T) = true := fun w hw => good_at hwm hw (hts w (List.mem_cons_of_mem _ hw))
  have hZ2 : xZ (fun a => (xP X).1 ≤ a) (stA (xs X) T) (stA (xs X) T).heap := by
    show xZ _ _ T.heap
    rw [hT]
    exact xZ.moved (u := xs X) hwm.alike (hZ.kept hS.2.1)
  have hw := xthrow2 (p := xp X) (l := xl X) (e := xe X) (R := { frames := (xR X).frames, cells := (xR X).cells - (H.size - (xs X).heap.size), slots := (xR X).slots - (tot H - tot (xs X).heap), locals := (xR X).locals }) (s := stA (xs X) T) (m := xm X) (args := xa X) (below := xb X) (meth := xh X) (c := xc X) (pc := pc) (ls := ls) (own := own) (cls := E) (names := names) (ik := ik) (ic := ic) hx hb hst
    (by rw [hwm.alike.findClass]; exact hown) hcls hnames (hall _ hk) (hall _ hini) (hall _ hins) (xat (fun w h => hall w (h1 w h)) h2 (xB.warm hwm hK.2.2.1) hZ2) (by rw [hml]; exact hsz) d0 d3 d4 d7 hex (by show _ < (xR X).frames; rw [hR1]; exact hfr) (by show _ ≤ (xR X).locals; rw [hR2]; exact hlo)
    (by show 1 ≤ (xR X).cells - _; rw [hR3]; omega) (by show 6 ≤ (xR X).slots - _; rw [hR4]; omega) hlk
  obtain ⟨U, st, hrun, hend, hW2, hsame, ce, hce, hcv, hcc⟩ := hw T rfl X2
  have hh : (stA (xs X) T).heap = H := hT
  rw [hh] at hend hce
  obtain ⟨a1, a2, a3, a4, a5, a6⟩ := hsame
  have b2 : H.size ≤ U.heap.size := by rw [← hT]; exact a2
  have b3 : U.heap.size ≤ H.size + 1 := by rw [← hT]; exact a3
  have a6' : ∀ (a : Nat) (d : Cell), H[a]? = some d → U.heap[a]? = some d := fun a d hd => by
    rw [← hh] at hd
    obtain ⟨d', q1, q2, q3, q4⟩ := a6 a d hd
    have : d'.slots = d.slots := Array.ext_getElem? fun i => q4 i (by simp)
    rw [this] at q2
    rw [q2] at q1
    exact q1
  have htt : tot U.heap ≤ tot H + 6 ∧ tot H ≤ tot U.heap := by
    have s1 := tot_split U.heap H.size
    have s2 : (U.heap.toList.take H.size).map (fun c : Cell => c.slots.size) = H.toList.map (fun c : Cell => c.slots.size) := tot_take fun a c hc => ⟨c, a6' a c hc, rfl⟩
    have a5' : ((U.heap.toList.drop H.size).map (fun c : Cell => c.slots.size)).sum ≤ 6 := by rw [← hT]; exact a5
    rw [s2] at s1
    have s3 : tot H = (H.toList.map (fun c : Cell => c.slots.size)).sum := rfl
    omega
  refine ⟨U, st, ?_⟩
  rw [hR]
  have hWar : (xs X).WarmedH U.vm := State.WarmedH.trans hwm hW2
  refine ⟨.threw H.size, hrun, hend, H.size, locs ++ [], rfl, ⟨ce, hce, hcv, by rw [hwm.alike.findClass] at hcc; exact hcc⟩, ⟨(q.1, U.heap.size, tot U.heap), hx0, ⟨by show U.heap.size + n.1 + _ ≤ _ + 1; omega, by show tot U.heap + n.2 + _ ≤ _ + 6; omega⟩, hW.more rfl rfl rfl ⟨by show U.heap.size ≤ _; omega, by show tot U.heap ≤ _; omega⟩ a6', ?_⟩, hWar, ?_, ?_⟩
  · refine ⟨Nat.le_trans hS.1 b2, fun a ha hn9 => ?_⟩
    have h8 := hS.2.1 a ha hn9
    rw [← h8]
    rw [Array.getElem?_eq_getElem (Nat.lt_of_lt_of_le ha hS.1)]
    exact a6' a _ (Array.getElem?_eq_getElem (Nat.lt_of_lt_of_le ha hS.1))
  · have hc1 : ({ U with vm := T.vm } : State) = { T.setFrames U.frames with heap := U.heap, slotsUsed := U.slotsUsed } := by
      have t0 := congrArg (fun z : State => z.setFrames U.frames) X2.same.1
      have t1 : (({ (stA (xs X) T).setFrames T.frames with heap := T.heap, slotsUsed := T.slotsUsed } : State)).setFrames U.frames = { ((stA (xs X) T).setFrames T.frames).setFrames U.frames with heap := T.heap, slotsUsed := T.slotsUsed } := rfl
      rw [State.setFrames_setFrames] at t1
      have t2 : T.setFrames U.frames = { (stA (xs X) T).setFrames U.frames with heap := T.heap, slotsUsed := T.slotsUsed } := t0.trans t1
      rw [t2]
      exact a1
    have hT2 : T.sameButNew ({ U with vm := T.vm } : State) [] 1 6 := ⟨hc1, a2, a3, a4, a5, a6⟩
    exact (Xs.same.trans (hT2.setVm (xs X).vm)).mono f1 f2
  · intro z hz
    rw [List.append_nil] at hz
    exact hS.2.2 z hz

def QeK (P : PP) (L : List Nat) (q : PL) (n : Nat × Nat) (s : S1) (rv : PL → Option Value) : Array Value → State → Outcome → State → Prop := fun _ st oc t => ∃ q' : PL, oc = .returned (rv q') ∧ Exq P L q q' ∧ RmK P q' n ∧ Wd P q' s t.heap ∧ va_F (fun a => P.1 ≤ a) st t
def RtKX (X : Cx) (L : List Nat) (q : PL) (n : Nat × Nat) (s : S1) (rv : PL → Option Value) : Prop := xq X = MQ (xb X) (QeK (xP X) L q n s rv) (xa X) (xs X) (cC (xP X) (xs X).heap.size) (cS (xP X) (tot (xs X).heap)) (fun a => (xP X).1 ≤ a)
def CtWK (l : Launch) (y : MethodName) (cc : ByteArray) (nL : Nat) (ret : Option FieldType) (hh : List (Nat × Nat × Nat × Nat)) (fr lo : Nat) (P : PP) (L : List Nat) (q : PL) (s : S1) (argv : List Value) (rv : PL → Option Value) (n' : Nat × Nat) (s' : S1) : Prop :=
  Met l y (Cond.codeWith y cc nL ret hh :: wA) { frames := fr, cells := cC P q.2.1, slots := cS P q.2.2, locals := lo } (va_Pc argv (PeZ P q s)) (QeK P L q n' s' rv) (cC P q.2.1) (cS P q.2.2) (fun a => P.1 ≤ a)
theorem ctWK_of {l : Launch} {y : MethodName} {cc : ByteArray} {nL : Nat} {ret : Option FieldType} {hh : List (Nat × Nat × Nat × Nat)} {fr lo : Nat} {P : PP} {L : List Nat} {q : PL} {s : S1} {argv : List Value} {rv : PL → Option Value} {n' : Nat × Nat} {s' : S1}
    (hy : plainName y.cls = true) (hn : (lg_sl argv).length ≤ nL)
    (k : ∀ (X : Cx) (ls : Array Slot), xP X = P → xl X = l → GdW X (Cond.codeWith y cc nL ret hh) cc nL ret fr lo y.cls hh → RtKX X L q n' s' rv → lv_has ls nL (lv_args 0 argv) → WW X q s 0 ls []) : CtWK l y cc nL ret hh fr lo P L q s argv rv n' s' := by
  refine va_MetW (cc := cc) (maxL := nL) (ret := ret) (hh := hh) hy rfl ?_
  intro p e s0 m args below meth c s₁ B hml hv
  obtain ⟨rfl, ⟨hW, hK⟩, hZ⟩ := hv
  have hts := atoms_spec (ws := Cond.codeWith y cc nL ret hh :: wA) B.pre
  have hTab := xtab B (hts (.codeWith y cc nL ret hh) List.mem_cons_self)
  have e1 : s0.heap.size = q.2.1 := hW.1
  have e2 : tot s0.heap = q.2.2 := hW.2.1
  have hl := lv_entry argv (n := nL) hn
  rw [lg_entry_eq]
  have z := k ((p, l, e, (headSpec (Cond.codeWith y cc nL ret hh :: wA) { frames := fr, cells := cC P q.2.1, slots := cS P q.2.2, locals := lo }).room, s0, m), (argv.toArray, below, meth, c), MQ below (QeK P L q n' s' rv) argv.toArray s0 (cC P q.2.1) (cS P q.2.2) (fun a => P.1 ≤ a), P) _ rfl rfl
    ⟨⟨⟨B.exec, B.bytes⟩, hml, findClass_of_methodNamed B.named, hts, hK, ⟨rfl, rfl, by show cC P q.2.1 = cC P s0.heap.size; rw [e1], by show cS P q.2.2 = cS P (tot s0.heap); rw [e2]⟩, hZ⟩, B.returns, B.notSynchronized, hTab⟩
    (by unfold RtKX; show MQ _ _ _ _ _ _ _ = MQ _ _ _ _ (cC P s0.heap.size) (cS P (tot s0.heap)) _; rw [e1, e2]) hl s0.heap [] hW va_S.rf
  exact w_tight (by omega) (by omega) z

section WR
variable {X : Cx} {q : PL} {s s1 : S1} {w0 : Cond} {y : MethodName} {cc bytes : ByteArray} {nL maxL : Nat} {ret0 ret : Option FieldType} {fr0 lo0 fr lo : Nat} {own : String} {hh : List (Nat × Nat × Nat × Nat)} {pc : Nat} {ls : Array Slot} {rest st0 : List Value} {r : Nat} {i : Int32} {C : String} {T : u_T} {ty : Nat → FieldType} {n index : Nat} {L : List Nat} {n1 : Nat × Nat} {rv : PL → Option Value} {As : List Value}
/-- a call that throws, and the row that catches -/
theorem wt_callK (g : GdW X w0 cc nL ret0 fr0 lo0 own hh) (hv : CV y bytes maxL ret n) (hm : Cond.methodLink own index y ∈ wA) (hc : ClF r y.cls T ty) (hp : prs s r i) {E name : String} (hM : CtK (xl X) y bytes maxL ret fr lo (xP X) L q s (.ref (q.1 r i) :: As) E n1 s1)
    (hR : fr + 1 ≤ fr0 ∧ 8 + (maxL + 11) + lo ≤ lo0) (hn : As.length = n) (hsz : ls.size = nL) (hrest : (rest.map fun v => v.category).sum ≤ 8) (hdg : decode cc pc = .ok (.invokevirtual index, 3)) (hst : st0 = As.reverse ++ .ref (q.1 r i) :: rest)
    (pre : List ExceptionTableEntry) (x : ExceptionTableEntry) (suf : List ExceptionTableEntry) (hsplit : tableOf hh = pre ++ x :: suf)
    (hpre : ∀ y ∈ pre, covers y pc = true ∧ y.catchType ≠ 0 ∧ ∃ nm : String, Cond.classLink own y.catchType nm ∈ wA ∧ va_Nc E nm (xs X)) (hx : covers x pc = true) (h0 : x.catchType ≠ 0)
    (hlink : Cond.classLink own x.catchType name ∈ wA) (hcast : Cond.castable E name ∈ xW) (hct : (Cond.castable E name).onTables = true)
    (kk : ∀ (q9 : Nat) (q1 : PL), Exq (xP X) L q q1 → RmK (xP X) q1 n1 → WW X q1 s1 x.handlerPc ls [.ref q9]) : WW X q s pc ls st0 := by
  subst hst
  obtain ⟨v1, v2, v3, v4, v5⟩ := hv
  obtain ⟨⟨⟨hx1, hb⟩, hml, hown, hts, hK, ⟨hR1, hR2, hR3, hR4⟩, hZ, hN⟩, -, -, hTab⟩ := g
  intro H locs hW hS
  refine w_grow fun z1 z2 => ?_
  refine w_tight (k := H.size - (xs X).heap.size) (n := tot H - tot (xs X).heap) (by omega) (by omega) ?_
  have e1 := hW.1
  have e2 := hW.2.1
  obtain ⟨e3, e4, -⟩ := hW.2.2.2.2
  have f1 : H.size - (xs X).heap.size + cC (xP X) q.2.1 ≤ cC (xP X) (xs X).heap.size := by unfold cC; omega
  have f2 : tot H - tot (xs X).heap + cS (xP X) q.2.2 ≤ cS (xP X) (tot (xs X).heap) := by unfold cS; omega
  have hcell := (hW.2.2.1 r i hp).1
  unfold cellAt at hcell
  rw [if_pos hc.1] at hcell
  obtain ⟨cell, q1', q2, q3, q4⟩ := hcell
  obtain ⟨hSl, hfc, kC, hkC, hkind⟩ := hK.1.1 (ciF r) _ hc.2.1
  have hpreV : PreV (xs X) H y.cls (q.1 r i) (va_Pc (.ref (q.1 r i) :: As) (PeZ (xP X) q s)) As := ⟨pez_blind _ _ _ _, ⟨cell, q1', by rw [q3]; rfl, by rw [q2]; exact hfc⟩, fun U hU hWm => ⟨rfl, ⟨by rw [hU]; exact hW, Kk.at hWm (by rw [hU]; exact hS.2.1) hK⟩, by rw [hU]; exact xZ.moved hWm.alike (hZ.kept hS.2.1), hN.moved hWm.alike⟩⟩
  refine xcall (A0 := fun a => (xP X).1 ≤ a) (A1 := fun a => (xP X).1 ≤ a) (Ts := w0 :: wA) (name := name) ⟨hx1, hb, hml, hown, hts⟩ hM (cwV n hts (gV hm v1 v2 v3 v4) rfl rfl rfl ⟨rfl, v5⟩ (by rw [hR1, hR2]; exact hR)) hpreV hn hsz rfl hrest hdg (by rw [hR3, hR4]; exact ⟨f1, f2⟩) hS (fun _ _ h => h) (fun _ h => h) (fun st t h => by obtain ⟨q1, -, -, -, hF⟩ := h; exact hF) pre x suf (by rw [hTab]; exact hsplit)
    (fun y hy => by obtain ⟨a1, a2, nm, a3, a4⟩ := hpre y hy; exact ⟨a1, a2, nm, hts _ (List.mem_cons_of_mem _ a3), a4⟩) hx h0 (hts _ (List.mem_cons_of_mem _ hlink)) (va_Nw.use hct (hK.2.2.1 _ hcast)) (fun q9 t H1 locs1 ht hvm hQ hz hk hS1 => ?_)
  obtain ⟨st, -, q1, hE, hRm, hWd, -⟩ := hQ
  refine W.widen f1 f2 ?_
  exact kk q9 q1 hE hRm H1 locs1 (by rw [← ht]; exact hWd) hS1
/-- a static call of a method that catches, with a part of the room -/
theorem wt_callSK (g : G0 X w0 cc nL fr0 lo0 own) (P' : PP) (eP : ∃ a b, P' = pkP (xP X) a b) (hv : Cond.static y ∈ wA ∧ Cond.initialized y.cls ∈ wA ∧ Cond.codeWith y bytes maxL ret hh ∈ wA ∧ (y.cls ≠ "java/lang/invoke/MethodHandle" ∧ y.cls ≠ "java/lang/invoke/VarHandle" ∧ (parseMethodDescriptor y.desc).map (fun d => d.parameters.length) = some n)) (hm : Cond.methodLink own index y ∈ wA) (hM : CtWK (xl X) y bytes maxL ret hh fr lo P' L q s As rv n1 s1)
    (hR : fr + 1 ≤ fr0 ∧ 8 + (maxL + 11) + lo ≤ lo0) (hn : As.length = n) (hsz : ls.size = nL) (hrest : (rest.map fun v => v.category).sum ≤ 8) (hdg : decode cc pc = .ok (.invokestatic index, 3)) (hst : st0 = As.reverse ++ rest)
    (kk : ∀ q1, Exq (xP X) L q q1 → RmK P' q1 n1 → WW X q1 s1 (pc + 3) ls ((rv q1).toList ++ rest)) : WW X q s pc ls st0 := by
  subst hst
  obtain ⟨a, b, rfl⟩ := eP
  obtain ⟨v1, v3, v4, v5⟩ := hv
  have g' := g
  obtain ⟨⟨hx, hb⟩, hml, hown, hts, hK, ⟨hR1, hR2, hR3, hR4⟩, hZ, hN⟩ := g'
  intro H locs hW hS
  refine w_grow fun z1 z2 => ?_
  refine w_tight (k := H.size - (xs X).heap.size) (n := tot H - tot (xs X).heap) (by omega) (by omega) ?_
  have e1 := hW.1
  have e2 := hW.2.1
  obtain ⟨e3, e4, -⟩ := hW.2.2.2.2
  have f1 : H.size - (xs X).heap.size + cC (xP X) q.2.1 ≤ cC (xP X) (xs X).heap.size := by unfold cC; omega
  have f2 : tot H - tot (xs X).heap + cS (xP X) q.2.2 ≤ cS (xP X) (tot (xs X).heap) := by unfold cS; omega
  have hpre : PreS (xs X) H (va_Pc As (PeZ (pkP (xP X) a b) q s)) As := ⟨pez_blind _ _ _ _, fun U hU hWm => ⟨rfl, ⟨by rw [hU]; exact hW.pk, (Kk.at hWm (by rw [hU]; exact hS.2.1) hK).pk⟩, by rw [hU]; exact xZ.moved hWm.alike (hZ.kept hS.2.1), hN.moved hWm.alike⟩⟩
  have hrun := xcwS (H := H) (locs := locs) (cells := H.size - (xs X).heap.size) (slots := tot H - tot (xs X).heap) (g := F0 (xm X) pc ls (As.reverse ++ rest)) (rest := rest) (R := xR X) (e := xe X) (p := xp X) (below := xb X) (meth := xh X) (c := xc X) (Ts := w0 :: wA) n ⟨hx, hb, hml, hown, hts⟩ hM (gS hm v1 v3 v4) rfl rfl rfl v5 (by rw [hR1, hR2]; exact hR) hpre rfl hn hsz rfl (lv_room hrest) hdg (by rw [hR3, hR4]; exact ⟨f1, f2⟩)
  intro T hT Xs
  obtain ⟨v, st0, t, T', L', h0, X', hL, e5, e6, ⟨q1, hv, hx1, hn1, hWd, hF⟩, st⟩ := hrun T hT Xs
  cases hv
  obtain ⟨t2, a1, b1⟩ := kk q1 hx1 hn1 T'.heap (locs ++ L') (by rw [e5]; exact hWd.pkb)
    ⟨by rw [e5]; exact Nat.le_trans hS.1 (h0 ▸ hF.1), fun a ha hn => by rw [e5, hF.2 a (by rw [h0]; exact Nat.lt_of_lt_of_le ha hS.1) hn, h0]; exact hS.2.1 a ha hn, fun a ha => by
      rcases List.mem_append.mp ha with z | z
      · exact hS.2.2 a z
      · exact hL a z⟩ T' rfl (stand_widen X' f1 f2)
  exact ⟨t2, st t2 a1, b1⟩
variable {q0 : PL} {m : Nat × Nat}
theorem wt_iretK (g : GdW X w0 cc nL (some .int) fr lo own hh) {v : Int32} (hR : RtKX X L q0 m s (fun _ => some (.int v))) (hx0 : Exq (xP X) L q0 q) (hm : RmK (xP X) q m) (hdg : decode cc pc = .ok (.ireturn, 1)) : WW X q s pc ls [.int v] := by
  intro H locs hW hS
  obtain ⟨⟨⟨hx, hb⟩, -, hown, hts, hK, -⟩, hr, hlk, -⟩ := g
  rw [hR]
  exact W.iret hx hb hr (fun t ht _ => ⟨q, rfl, hx0, hm, by rw [ht]; exact hW, hS.F ht⟩) hS.2.2 hdg hlk
end WR

theorem tk_load {l : Launch} (hst : l.stackTraces = false) {P : PP} {q : PL} {s s' : S1} {n0 n1 : Nat × Nat}  {k : Int32} (hm : Rmq P q n0) (hn : 1 ≤ P.2.2.1 3000 ∧ 6 ≤ P.2.2.1 3001) (h : X_load n0 s = some ((Sum.inl k, n1), s')) : CtK l y_LM_load b_LM_load 2 (some .int) 8 221 P [118, 146, 147, 149, 150, 151, 153, 154] q s [.ref (q.1 100 0)] (exN k) n1 s' := by
  refine ctK_of hst (by decide) (Nat.le_of_ble_eq_true rfl) fun X ls eP el g hX hR hl => ?_
  subst eP
  obtain ⟨q0, hq0⟩ : ∃ q0 : PL, q0 = q := ⟨q, rfl⟩
  have hx0 : Exq (xP X) [118, 146, 147, 149, 150, 151, 153, 154] q0 q := hq0 ▸ Exq.rf
  rw [← hq0] at hR
  have hl : lv_has ls 2 [(0, .ref (q.1 100 0))] := hl
  unfold X_load at h
  refine ww_aload_n (pc := 0) g.1 d_LM_load_0 rfl (lv_at hl 0 rfl) ?_
  refine ww_gI (pc := 1) g (k := 0) cl_LM (pz rfl (by decide)) (by decide) (Or.inl kw_644) (f := 12800) rfl rfl d_LM_load_1 h fun v1 h => ?_
  refine ww_istore_n (pc := 4) (i := 1) g.1 (lv' := [(1, .int v1), (0, .ref (q.1 100 0))]) d_LM_load_4 rfl hl (by decide) rfl fun ls hl => ?_
  refine ww_aload_n (pc := 5) g.1 d_LM_load_5 rfl (lv_at hl 1 rfl) ?_
  refine ww_iconst (pc := 6) g.1 (v := 0) d_LM_load_6 (by decide) ?_
  refine ww_pI (pc := 7) g (k := 0) cl_LM (pz rfl (by decide)) (by decide) (Or.inl kw_644) rfl (f := 12800) rfl rfl rfl rfl d_LM_load_7 h fun s hs h => ?_
  refine ww_aload_n (pc := 10) g.1 d_LM_load_10 rfl (lv_at hl 1 rfl) ?_
  refine ww_iconst (pc := 11) g.1 (v := 0) d_LM_load_11 (by decide) ?_
  refine ww_pI (pc := 12) g (k := 1) cl_LM (pz rfl (by decide)) (by decide) (Or.inl kw_632) rfl (f := 12801) rfl rfl rfl rfl d_LM_load_12 h fun s hs h => ?_
  refine ww_aload_n (pc := 15) g.1 d_LM_load_15 rfl (lv_at hl 1 rfl) ?_
  refine ww_gR (pc := 16) g (k := 2) cl_LM (pz rfl (by decide)) (by decide) (Or.inl kw_648) (f := 12802) (t := 101) rfl rfl rfl d_LM_load_16 ?_
  refine ww_iload_n (pc := 19) g.1 d_LM_load_19 rfl (lv_at hl 0 rfl) ?_
  refine ww_lo fun dlo => ?_
  obtain ⟨v20, s, hc20, h⟩ := oB_of h
  refine ww_callVX (pc := 20) (rest := []) g cv_Ch_readAll (Or.inl kw_1606) cl_Ch (pz rfl (by decide)) (ct_Ch_readAll hm hc20) ⟨by decide, by decide⟩ rfl hl.1 (Nat.le_of_ble_eq_true rfl) d_LM_load_20 rfl (fun q20 hE hm => ?_)
  have ex20_0 : q20.1 100 0 = q.1 100 0 := hE _ _ (by decide) (dlo _ _ (pz rfl (by decide)))
  have hl : lv_has ls 2 [(1, .int v1), (0, .ref (q20.1 100 0))] := by rw [ex20_0]; exact hl
  refine ww_st (st' := [.int v20.1]) (by rfl) ?_
  have hx0 : Exq (xP X) [118, 146, 147, 149, 150, 151, 153, 154] _ q20 := hx0.tr (hE.sub (by decide))
  refine ww_if_eq (pc := 23) (tgt := 36) g.1 d_LM_load_23 (by decide) h (fun c h => ?_) (fun c h => ?_)
  · obtain ⟨rfl, rfl, rfl⟩ := ta_X h
    rw [exN_3] at hR
    exact ww_throwK (pc := 36) (names := ["java/lang/RuntimeException", "java/lang/Exception"]) g hX hR rfl hx0 hm hn hl.1 (by decide) (by decide) kt_6 kt_7 kt_8 xo_3 xn_3 d_LM_load_36 d_LM_load_39 d_LM_load_40 d_LM_load_43 (by decide) (by decide)
  · refine ww_aload_n (pc := 26) g.1 d_LM_load_26 rfl (lv_at hl 1 rfl) ?_
    refine ww_gR (pc := 27) g (k := 2) cl_LM (pz rfl (by decide)) (by decide) (Or.inl kw_648) (f := 12802) (t := 101) rfl rfl rfl d_LM_load_27 ?_
    obtain ⟨v30, s, hc30, h⟩ := oB_of h
    refine ww_callV (pc := 30) (rest := []) g cv_Ch_checkAll (Or.inl kw_1607) cl_Ch (pz rfl (by decide)) (ct_Ch_checkAll hc30) ⟨by decide, by decide⟩ rfl hl.1 (Nat.le_of_ble_eq_true rfl) d_LM_load_30 rfl (?_)
    refine ww_st (st' := [.int v30]) rfl ?_
    refine ww_if_ne (pc := 33) (tgt := 44) g.1 d_LM_load_33 (by decide) h (fun c h => ?_) (fun c h => ?_)
    · refine ww_aload_n (pc := 44) g.1 d_LM_load_44 rfl (lv_at hl 1 rfl) ?_
      refine ww_gR (pc := 45) g (k := 6) cl_LM (pz rfl (by decide)) (by decide) (Or.inl kw_633) (f := 12806) (t := 130) rfl rfl rfl d_LM_load_45 ?_
      refine ww_iconst (pc := 48) g.1 (v := 0) d_LM_load_48 (by decide) ?_
      refine ww_pI (pc := 49) g (k := 1) cl_Bu (pz rfl (by decide)) (by decide) (Or.inl kw_634) rfl (f := 16641) rfl rfl rfl rfl d_LM_load_49 h fun s hs h => ?_
      refine ww_aload_n (pc := 52) g.1 d_LM_load_52 rfl (lv_at hl 1 rfl) ?_
      refine ww_gR (pc := 53) g (k := 4) cl_LM (pz rfl (by decide)) (by decide) (Or.inl kw_635) (f := 12804) (t := 128) rfl rfl rfl d_LM_load_53 ?_
      refine ww_lo fun dlo => ?_
      obtain ⟨v56, s, hc56, h⟩ := oB_of h
      refine ww_callVX (pc := 56) (rest := []) g cv_Ma_boot (Or.inl kw_1608) cl_Ma (pz rfl (by decide)) (ct_Ma_boot hm hc56) ⟨by decide, by decide⟩ rfl hl.1 (Nat.le_of_ble_eq_true rfl) d_LM_load_56 rfl (fun q56 hE hm => ?_)
      have ex56_0 : q56.1 100 0 = q20.1 100 0 := hE _ _ (by decide) (dlo _ _ (pz rfl (by decide)))
      have hl : lv_has ls 2 [(1, .int v1), (0, .ref (q56.1 100 0))] := by rw [ex56_0]; exact hl
      refine ww_st (st' := [.int v56.1]) (by rfl) ?_
      have hx0 : Exq (xP X) [118, 146, 147, 149, 150, 151, 153, 154] _ q56 := hx0.tr (hE.sub (by decide))
      refine ww_if_ne (pc := 59) (tgt := 70) g.1 d_LM_load_59 (by decide) h (fun c h => ?_) (fun c h => ?_)
      · refine ww_aload_n (pc := 70) g.1 d_LM_load_70 rfl (lv_at hl 1 rfl) ?_
        refine ww_iconst (pc := 71) g.1 (v := 1) d_LM_load_71 (by decide) ?_
        refine ww_pI (pc := 72) g (k := 1) cl_LM (pz rfl (by decide)) (by decide) (Or.inl kw_632) rfl (f := 12801) rfl rfl rfl rfl d_LM_load_72 h fun s hs h => ?_
        refine ww_aload_n (pc := 75) g.1 d_LM_load_75 rfl (lv_at hl 1 rfl) ?_
        refine ww_gR (pc := 76) g (k := 2) cl_LM (pz rfl (by decide)) (by decide) (Or.inl kw_648) (f := 12802) (t := 101) rfl rfl rfl d_LM_load_76 ?_
        refine ww_gI (pc := 79) g (k := 9) cl_Ch (pz rfl (by decide)) (by decide) (Or.inl kw_1609) (f := 12937) rfl rfl d_LM_load_79 h fun v79 h => ?_
        exact (td_X h).elim
      · obtain ⟨rfl, rfl, rfl⟩ := ta_X h
        rw [exN_1] at hR
        exact ww_throwK (pc := 62) (names := ["java/lang/RuntimeException", "java/lang/Exception"]) g hX hR rfl hx0 hm hn hl.1 (by decide) (by decide) kt_0 kt_1 kt_2 xo_1 xn_1 d_LM_load_62 d_LM_load_65 d_LM_load_66 d_LM_load_69 (by decide) (by decide)
    · obtain ⟨rfl, rfl, rfl⟩ := ta_X h
      rw [exN_3] at hR
      exact ww_throwK (pc := 36) (names := ["java/lang/RuntimeException", "java/lang/Exception"]) g hX hR rfl hx0 hm hn hl.1 (by decide) (by decide) kt_6 kt_7 kt_8 xo_3 xn_3 d_LM_load_36 d_LM_load_39 d_LM_load_40 d_LM_load_43 (by decide) (by decide)

theorem wk_load {l : Launch} (hst : l.stackTraces = false) {P : PP} {q : PL} {s s' : S1} {n0 n1 : Nat × Nat}  {k : Int32} (hm : Rmq P q n0) (hn : 1 ≤ P.2.2.1 3000 ∧ 6 ≤ P.2.2.1 3001) (h : X_load n0 s = some ((Sum.inl k, n1), s')) : CtWK l y_law_load b_law_load 3 (some .int) [(0, 8, 11, 25), (0, 8, 14, 13)] 9 242 P [118, 146, 147, 149, 150, 151, 153, 154] q s [.ref (q.1 100 0), .ref (q.1 155 0)] (fun _ => some (.int (cw_load k))) n1 s' := by
  have hk := xk_load _ _ _ _ h
  refine ctWK_of (by decide) (Nat.le_of_ble_eq_true rfl) fun X ls eP el g hR hl => ?_
  subst eP
  subst el
  have hl : lv_has ls 3 [(0, .ref (q.1 100 0)), (1, .ref (q.1 155 0))] := hl
  refine ww_aload_n (pc := 0) g.1.1 d_law_load_0 rfl (lv_at hl 1 rfl) ?_
  refine ww_iconst (pc := 1) g.1.1 (v := 0) d_law_load_1 (by decide) ?_
  refine ww_aload_n (pc := 2) g.1.1 d_law_load_2 rfl (lv_at hl 0 rfl) ?_
  refine ww_lo fun dlo => ?_
  rcases hk with rfl | rfl
  · have hT := tk_load hst hm hn h
    rw [exN_3] at hT
    refine wt_callK (pc := 3) (rest := [.int 0, .ref (q.1 155 0)]) (name := "java/lang/UnsupportedOperationException") g cv_LM_load kt_16 cl_LM (pz rfl (by decide)) hT ⟨by decide, by decide⟩ rfl hl.1 (Nat.le_of_ble_eq_true rfl) d_law_load_3 rfl [] ⟨0, 8, 11, 25⟩ [⟨0, 8, 14, 13⟩] rfl (fun _ hz => nomatch hz) (by decide) (by decide) kt_17 nwc_3 rfl (fun q9 q1 hE hm1 => ?_)
    have e100 : q1.1 100 0 = q.1 100 0 := hE _ _ (by decide) (dlo _ _ (pz rfl (by decide)))
    refine ww_astore_n (pc := 11) (i := 2) g.1.1 (lv' := ((2, Value.ref q9) :: [(0, .ref (q.1 100 0)), (1, .ref (q.1 155 0))])) d_law_load_11 rfl hl (by decide) rfl fun ls hl => ?_
    refine ww_iconst (pc := 12) g.1.1 (v := 1) d_law_load_12 (by decide) ?_
    exact wt_iretK (pc := 13) g hR hE hm1 d_law_load_13
  · have hT := tk_load hst hm hn h
    rw [exN_1] at hT
    refine wt_callK (pc := 3) (rest := [.int 0, .ref (q.1 155 0)]) (name := "java/lang/IllegalStateException") g cv_LM_load kt_16 cl_LM (pz rfl (by decide)) hT ⟨by decide, by decide⟩ rfl hl.1 (Nat.le_of_ble_eq_true rfl) d_law_load_3 rfl [⟨0, 8, 11, 25⟩] ⟨0, 8, 14, 13⟩ [] rfl (fun z hz => by obtain rfl := List.mem_singleton.mp hz; exact ⟨by decide, by decide, "java/lang/UnsupportedOperationException", kt_17, g.1.2.2.2.2.2.2.2.1⟩) (by decide) (by decide) kt_13 nwc_1 rfl (fun q9 q1 hE hm1 => ?_)
    have e100 : q1.1 100 0 = q.1 100 0 := hE _ _ (by decide) (dlo _ _ (pz rfl (by decide)))
    refine ww_astore_n (pc := 14) (i := 2) g.1.1 (lv' := ((2, Value.ref q9) :: [(0, .ref (q.1 100 0)), (1, .ref (q.1 155 0))])) d_law_load_14 rfl hl (by decide) rfl fun ls hl => ?_
    refine ww_iconst (pc := 15) g.1.1 (v := 2) d_law_load_15 (by decide) ?_
    exact wt_iretK (pc := 16) g hR hE hm1 d_law_load_16
