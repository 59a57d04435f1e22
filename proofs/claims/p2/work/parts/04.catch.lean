/-! The handler's search where the catch type's entry isn't resolved yet: it resolves it, and goes on. -/
section XF
variable {Q : Handler → Pre} {E : CtlPost} {e : Env} {d : Bool} {acts : List Action} {s : State} {f : JFrame} {a : Addr}
/-- the row's class takes the object, or it doesn't: the entry is noted in either case -/
theorem xgo {x : ExceptionTableEntry} {t : List ExceptionTableEntry} {c : ClassId} {cell : Cell} (hx : covers x f.pc = true) (h0 : x.catchType ≠ 0)
    (hl : s.vm.ClassLinks e.platform f.method.cls x.catchType c) (hcell : s.heap[a]? = some cell) (hobj : ∀ k, cell.vm ≠ .statics k) (hk : ∃ k, s.vm.classes[cell.cls]? = some k) (hc : ∃ k, s.vm.classes[c]? = some k) :
    wp (findHandler.go f a (x :: t)) Q E e d acts s ↔ if s.vm.assignable cell.cls c = true then Q (.found x.handlerPc) d acts (s.setVm (s.vm.noted f.method.cls x.catchType (.cls c))) else wp (findHandler.go f a t) Q E e d acts (s.setVm (s.vm.noted f.method.cls x.catchType (.cls c))) := by
  have hA : s.vm.Alike (s.vm.noted f.method.cls x.catchType (.cls c)) := (Vm.Alike.refl s.vm).noted _ _ _
  obtain ⟨g1, g2⟩ := (resolveClass_links e.toSetting hl).op (op := VmOp.resolveClass f.method.cls x.catchType) rfl
  obtain ⟨k1, hk1⟩ := hk
  obtain ⟨k2, hk2⟩ := hc
  obtain ⟨k3, hk3, -⟩ := hA.2.2 _ _ hk1
  obtain ⟨k4, hk4, -⟩ := hA.2.2 _ _ hk2
  have hB : (s.vm.noted f.method.cls x.catchType (.cls c)).assignable cell.cls c = s.vm.assignable cell.cls c := hA.assignable _ _
  simp only [covers] at hx
  by_cases hfit : s.vm.assignable cell.cls c = true
  · simp [findHandler.go, hx, h0, g1, g2, hcell, hobj, hk3, hk4, hB, hfit, VmOp.dirties, VmOp.acts]
  · simp [findHandler.go, hx, h0, g1, g2, hcell, hobj, hk3, hk4, hB, hfit, VmOp.dirties, VmOp.acts]
end XF
/-- what a search gives, and the tables that it leaves -/
def xFinds (e : Env) (s : State) (f : JFrame) (a : Addr) (h : Handler) (vm' : Vm) : Prop := ∀ (Q : Handler → Pre) (E : CtlPost) (d : Bool) (acts : List Action), wp (findHandler f a) Q E e d acts s ↔ Q h d acts (s.setVm vm')
theorem xstep {e : Env} {s : State} {a : Addr} {f : JFrame} {r : List Frame} {pc : Nat} {vm' : Vm} (hf : xFinds e s f a (.found pc) vm') : (stepThrowing e s a (.java f :: r)).Is ((s.setVm vm').setFrames (.java { f with pc := pc, stack := [.ref a] } :: r)) [] := by
  simp only [stepThrowing, searchFrame, vmDo]
  generalize hr : Sem.go _ e false [] s = res
  obtain ⟨as, rfl, ha⟩ := Sem.eq_ok_of hr (a := Handler.found pc) (s' := s.setVm vm') (acts' := []) (by simp [hf _ _ _ _])
  exact ⟨rfl, ha⟩
section XC
variable {p : Program} {l : Launch} {e : Env} {R : Room} {s : State} {m : MethodId} {args : Array Value} {below : List Frame} {meth : Method} {c : Code} {T : State} {H : Heap} {locs : List Loc} {cells slots : Nat}
/-- rows ahead that name other classes are passed; then one takes it -/
theorem xrows {g : JFrame} {a : Addr} {cell : Cell} {x : ExceptionTableEntry} {suf : List ExceptionTableEntry} {c1 : ClassId} (hobj : ∀ k, cell.vm ≠ .statics k) (hk0 : ∃ k, s.vm.classes[cell.cls]? = some k) (hx : covers x g.pc = true) (h0 : x.catchType ≠ 0)
    (hl : s.vm.ClassLinks e.platform g.method.cls x.catchType c1) (hc1 : ∃ k, s.vm.classes[c1]? = some k) (hfit : s.vm.assignable cell.cls c1 = true) (hd : ∀ (U : State) (i : Nat) (z : ClassId), s.WarmedH U.vm → s.vm.ClassLinks e.platform g.method.cls i z → s.WarmedH (U.vm.noted g.method.cls i (.cls z))) :
    ∀ (pre : List ExceptionTableEntry) (S : State), s.WarmedH S.vm → S.heap[a]? = some cell → (∀ y ∈ pre, covers y g.pc = true ∧ y.catchType ≠ 0 ∧ ∃ z, s.vm.ClassLinks e.platform g.method.cls y.catchType z ∧ (∃ k, s.vm.classes[z]? = some k) ∧ s.vm.assignable cell.cls z = false) →
      ∃ vm', s.WarmedH vm' ∧ ∀ (Q : Handler → Pre) (E : CtlPost) (d : Bool) (acts : List Action), wp (findHandler.go g a (pre ++ x :: suf)) Q E e d acts S ↔ Q (.found x.handlerPc) d acts (S.setVm vm') := by
  obtain ⟨k0, hk0⟩ := hk0
  obtain ⟨k1, hk1⟩ := hc1
  intro pre
  induction pre with
  | nil =>
    intro S hW hcell _
    obtain ⟨k2, hk2, -⟩ := hW.alike.2.2 _ _ hk0
    obtain ⟨k3, hk3, -⟩ := hW.alike.2.2 _ _ hk1
    refine ⟨_, hd S _ _ hW hl, fun Q E d acts => ?_⟩
    rw [List.nil_append, xgo hx h0 (hW.classLinks hl) hcell hobj ⟨k2, hk2⟩ ⟨k3, hk3⟩, if_pos (by rw [hW.alike.assignable]; exact hfit)]
  | cons y ys ih =>
    intro S hW hcell hp
    obtain ⟨hy, hy0, z, hz, ⟨kz, hkz⟩, hno⟩ := hp y List.mem_cons_self
    obtain ⟨k2, hk2, -⟩ := hW.alike.2.2 _ _ hk0
    obtain ⟨k3, hk3, -⟩ := hW.alike.2.2 _ _ hkz
    obtain ⟨vm', hW', hq⟩ := ih (S.setVm (S.vm.noted g.method.cls y.catchType (.cls z))) (hd S _ _ hW hz) hcell (fun w hw => hp w (List.mem_cons_of_mem _ hw))
    refine ⟨vm', hW', fun Q E d acts => ?_⟩
    rw [List.cons_append, xgo hy hy0 (hW.classLinks hz) hcell hobj ⟨k2, hk2⟩ ⟨k3, hk3⟩, if_neg (by rw [hW.alike.assignable, hno]; decide)]
    exact hq Q E d acts
/-- the thrown q is over the frame g: the method goes on at the handler of the row x -/
theorem xcatch {own name E : String} {g : JFrame} {q : Addr} {ce : Cell} (X : Stand p l e R s m args below meth c T locs cells slots) (hg : g.method = m) (hown : s.vm.findClass own = some m.cls) (pre : List ExceptionTableEntry) (x : ExceptionTableEntry) (suf : List ExceptionTableEntry) (hsplit : c.exceptionTable.toList = pre ++ x :: suf)
    (hpre : ∀ y ∈ pre, covers y g.pc = true ∧ y.catchType ≠ 0 ∧ ∃ nm : String, (Cond.classLink own y.catchType nm).before args s = true ∧ va_Nc E nm s) (hx : covers x g.pc = true) (h0 : x.catchType ≠ 0)
    (hlink : (Cond.classLink own x.catchType name).before args s = true) (hcast : (Cond.castable E name).before args s = true) (hcell : T.heap[q]? = some ce) (hv : ce.vm = .none) (hcl : s.vm.findClass E = some ce.cls) :
    ∃ vm', Stand p l e R s m args below meth c (T.setVm vm') locs cells slots ∧ ∀ target, Steps p.tables e below ((T.setVm vm').setTop { g with pc := x.handlerPc, stack := [.ref q] }) target → Steps p.tables e below ((T.setTop g).pushFrame (.throwing q)) target := by
  subst hg
  have hpl : e.platform.magicAccessors = ({} : Platform).magicAccessors := by rw [X.admits.platform]
  obtain ⟨c3, c4, hc3, hc4, hasg⟩ := Cond.castable_spec hcast
  cases Option.some.inj (hc3.symm.trans hcl)
  obtain ⟨c5, hc5, hl5⟩ := Cond.classLink_spec hown hlink e.platform hpl
  cases Option.some.inj (hc4.symm.trans hc5)
  have hd : ∀ (U : State) (i : Nat) (z : ClassId), s.WarmedH U.vm → s.vm.ClassLinks e.platform g.method.cls i z → s.WarmedH (U.vm.noted g.method.cls i (.cls z)) := by
    intro U i z hW hl
    obtain ⟨dk, _, _, kt, hd, _, _, _, _, hkt, _, hopen⟩ := hl.here
    exact hW.noted hd hopen (State.rightAt_cls hl)
  obtain ⟨k9, h9, -⟩ := Vm.findClass_spec hcl
  obtain ⟨k8, h8, -⟩ := Vm.findClass_spec hc4
  obtain ⟨vm', hW', hq⟩ := xrows (s := s) (e := e) (g := g) (a := q) (suf := suf) (fun k h => by rw [hv] at h; cases h) ⟨k9, h9⟩ hx h0 hl5 ⟨k8, h8⟩ hasg hd pre ((T.setTop g).pushFrame (.throwing q)) (by rw [Stand.throwing_vm]; exact X.warmed) (by rw [Stand.throwing_heap]; exact hcell) (fun y hy => by
    obtain ⟨h1, h2, nm, h3, h4⟩ := hpre y hy
    obtain ⟨c6, hc6, hl6⟩ := Cond.classLink_spec hown h3 e.platform hpl
    obtain ⟨a8, b8, f1, f2, f3⟩ := h4
    cases Option.some.inj (f1.symm.trans hcl)
    cases Option.some.inj (f2.symm.trans hc6)
    obtain ⟨k7, h7, -⟩ := Vm.findClass_spec hc6
    exact ⟨h1, h2, _, hl6, ⟨k7, h7⟩, f3⟩)
  refine ⟨vm', X.noted hW', fun target hrest => ?_⟩
  have hfind : xFinds e ((T.setTop g).pushFrame (.throwing q)) g q (.found x.handlerPc) vm' := fun Q E d acts => by
    rw [W.findHandler_eq (meth := meth) (code := c) (by rw [Stand.throwing_vm]; exact X.method') X.code, hsplit]
    exact hq Q E d acts
  obtain ⟨hgo, hw⟩ := X.here.throwing (g := g) q
  refine Steps.head hgo hw ?_
  rw [stepThread_throwing (frames_entered X.here.top _), (xstep hfind).1]
  obtain ⟨g₀, hfr⟩ := X.frames_eq
  have hfr' : (T.setVm vm').frames = .java g₀ :: below := hfr
  rw [State.setTop_of_frames _ hfr'] at hrest
  have e1 : ((((T.setTop g).pushFrame (.throwing q)).setVm vm').setFrames (.java { g with pc := x.handlerPc, stack := [.ref q] } :: T.frames.tail)) = (T.setVm vm').setFrames (.java { g with pc := x.handlerPc, stack := [.ref q] } :: below) := by
    rw [hfr, List.tail_cons, State.pushFrame, State.setTop_of_frames _ hfr]
    show (((T.setFrames _).setFrames _).setVm vm').setFrames _ = _
    rw [State.setFrames_setFrames]
    show ((T.setVm vm').setFrames _).setFrames _ = _
    rw [State.setFrames_setFrames]
  rw [e1]
  exact hrest
variable {Ts ws : List Cond} {cc bytes : ByteArray} {nL maxL index n mc ms : Nat} {own C E : String} {y : MethodName} {ret : Option FieldType} {rm : Room} {Pc : Array Value → State → Prop} {Qx : State → State → Prop} {free : Addr → Prop} {b : Addr} {As rest : List Value}
/-- a call of a method that throws, caught by the caller's own row x -/
theorem xcall {A0 A1 : Nat → Prop} {Q : State → Prop} {pc : Nat} {ls : Array Slot} {name : String} {st0 : List Value} (S : CallFix p m c cc nL s args Ts own) (hM : MetX l y ws rm Pc E Qx mc ms free) (cw : CallW R s args own C index y bytes maxL ret ws rm mc ms n) (hp : PreV s H C b Pc As)
    (hn : As.length = n) (hsize : ls.size = nL) (hstack : st0 = As.reverse ++ .ref b :: rest) (hW : (rest.map fun v => v.category).sum ≤ 8) (hdg : decode cc pc = .ok (.invokevirtual index, 3)) (hf : cells + mc ≤ R.cells ∧ slots + ms ≤ R.slots)
    (hS : va_S A0 s.heap H locs) (hA : ∀ q, q < H.size → A1 q → A0 q) (hfr : ∀ q, free q → A0 q) (hQF : ∀ st t, Qx st t → va_F A1 st t)
    (pre : List ExceptionTableEntry) (x : ExceptionTableEntry) (suf : List ExceptionTableEntry) (hsplit : c.exceptionTable.toList = pre ++ x :: suf)
    (hpre : ∀ y ∈ pre, covers y pc = true ∧ y.catchType ≠ 0 ∧ ∃ nm : String, (Cond.classLink own y.catchType nm).before args s = true ∧ va_Nc E nm s) (hx : covers x pc = true) (h0 : x.catchType ≠ 0)
    (hlink : (Cond.classLink own x.catchType name).before args s = true) (hcast : (Cond.castable E name).before args s = true)
    (kk : ∀ (q9 : Addr) (t : State) (H1 : Heap) (locs1 : List Loc), t.heap = H1 → s.vm.Alike t.vm → (∃ st, st.heap = H ∧ Qx st t) → H.size ≤ H1.size → (∀ q : Nat, q < H.size → ¬ A1 q → H1[q]? = H[q]?) → va_S A0 s.heap H1 locs1 → W p l e R s m args below meth c H1 locs1 (cells + mc) (slots + ms) Q (F0 m x.handlerPc ls [.ref q9])) :
    W p l e R s m args below meth c H locs cells slots Q (F0 m pc ls st0) := by
  obtain ⟨⟨hrc, hrs, hcf, hlo, hws, hcw, hcode, hini, hy, hlen, hl⟩, hin, hse⟩ := cw
  obtain ⟨hxx, hb, hml, ho, -⟩ := S
  obtain ⟨hbl, ⟨cellB, hcB, hoB, hclB⟩, hPc⟩ := hp
  intro T hT X
  obtain ⟨mk, methM, hnamed, hmethM, hstM, habM⟩ := Cond.instanceMethod_spec hin
  obtain ⟨methM', cM, hmethM', -, -, -, -, -, -, hsigM⟩ := Cond.code_spec hnamed hcode
  cases hmethM.symm.trans hmethM'
  obtain ⟨c2, r2, m2, q1, q2, q3, q4, kP, hkP, hkPi⟩ := Cond.selects_spec hse
  cases hclB.symm.trans q1
  cases (State.methodFound?_of_named hnamed hy).symm.trans q2
  cases hnamed.symm.trans q3
  have hselP : selectMethod e.platform s.vm cellB.cls mk = .method mk := by rw [Launch.admits_selectMethod X.admits]; exact q4
  have hdg' : decode c.code (F0 m pc ls st0).pc = .ok (.invokevirtual index, 3) := by rw [hb]; exact hdg
  obtain ⟨vm₁, X₁, hstep₁⟩ := X.invokevirtual hxx ho hl hnamed hmethM hstM hkP hkPi hy (a := b) (cell := cellB) (by rw [hT]; exact hcB)
    (fun z h => by rw [h] at hoB; cases hoB) hselP hmethM habM hkP hkPi (g := F0 m pc ls st0) rfl (argsL := As) (rest := rest) (hn.trans (hlen _ hsigM)) hstack hdg'
  obtain ⟨U, hUe⟩ : ∃ U, U = T.setVm vm₁ := ⟨_, rfl⟩
  rw [← hUe] at X₁ hstep₁
  have hUh : U.heap = H := by rw [hUe]; exact hT
  have hn1 := X₁.named hnamed
  have hW1 := X₁.warmed
  obtain ⟨methY, cY, hmY, hcY, -, hlY, -, -, -, -⟩ := Cond.code_spec hn1 (hws _ hcw (Value.ref b :: As).toArray U hW1)
  obtain ⟨kY, hkY, -⟩ := className_of_methodNamed hn1
  have hinitY : kY.init = .initialized := Cond.initialized_spec (findClass_of_methodNamed hn1) hkY (word_at (a' := #[]) hW1 (Or.inl (by first | rfl | simp [Cond.onTables, Cond.keeps, Cond.steady])) hini)
  have hAt : At U (F0 m pc ls rest).method c below := X₁.here
  have happ : (headSpec ws rm).appliesLoose y e.platform (U.calling (F0 m pc ls rest) mk (Value.ref b :: As).toArray) = true :=
    Spec.appliesLoose_calling (g := F0 m pc ls rest) hAt (by exact hdg') hn1 hkY hinitY
      (X₁.room_calling (g := F0 m pc ls rest) (R' := (headSpec ws rm).room) (by rw [hml]; exact hsize) hmY hcY hcf (by
        rw [hlY]
        have e1 : (F0 m pc ls rest).monitorRoom = 0 := rfl
        show 2 * (F0 m pc ls rest).monitorRoom + (rest.map fun v => v.category).sum + (maxL + 11) + rm.locals ≤ R.locals
        rw [e1]; omega) (by show cells + rm.cells ≤ R.cells; rw [hrc]; exact hf.1) (by show slots + rm.slots ≤ R.slots; rw [hrs]; exact hf.2)) (atoms_intro fun w hw => hws w hw _ _ hW1)
  obtain ⟨mid, hmid⟩ := hAt.above
  have hfr1 : (U.setTop (F0 m pc ls rest)).frames = (.java (F0 m pc ls rest) :: mid) ++ below := by rw [State.frames_setTop' _ hAt.top, hmid]; rfl
  obtain ⟨o, s₂, hsteps, -, hend, q, L, rfl, ⟨ce, hce, hcv, hcl⟩, hQ, hW2, hsame, hL⟩ := Steps.callFree hM p X₁.admits X₁.cas X₁.clock (acts := []) hfr1 happ (hbl _ _ _ _ (hPc U hUh hW1)) trivial
  rw [State.frames_setTop' _ hAt.top, X₁.tail] at hend
  obtain ⟨T', X', hW', hB', ht⟩ := X₁.outOfThrown (g := F0 m pc ls rest) rfl hend hW2 hsame
  have hth : s₂.heap = T'.heap := by rw [ht]; exact Stand.throwing_heap _ _ _
  have htv : s₂.vm = T'.vm := by rw [ht]; exact Stand.throwing_vm _ _ _
  have hcl' : s.vm.findClass E = some ce.cls := by
    have h1 : U.vm.findClass E = some ce.cls := hcl
    rw [hW1.alike.findClass] at h1
    exact h1
  obtain ⟨vm₂, X₂, hst2⟩ := xcatch X' (g := F0 m pc ls rest) rfl ho pre x suf hsplit hpre hx h0 hlink hcast (by rw [← hth]; exact hce) hcv hcl'
  obtain ⟨hz, hk⟩ := hQF _ _ hQ
  have hz' : H.size ≤ T'.heap.size := by rw [← hth, ← hUh]; exact hz
  have hk' : ∀ q : Nat, q < H.size → ¬ A1 q → T'.heap[q]? = H[q]? := fun q h1 h2 => by rw [← hth, ← hUh]; exact hk q (by rw [← hUh] at h1; exact h1) h2
  obtain ⟨t2, a1, b1⟩ := kk q s₂ T'.heap (locs ++ L) hth (by rw [htv]; exact X'.warmed.alike) ⟨(U.setTop (F0 m pc ls rest)).pushFrame (Frame.invoking mk (Value.ref b :: As).toArray), hUh, hQ⟩ hz' hk'
    ⟨Nat.le_trans hS.1 hz', fun q h1 h2 => by rw [hk' q (Nat.lt_of_lt_of_le h1 hS.1) (fun z => h2 (hA q (Nat.lt_of_lt_of_le h1 hS.1) z))]; exact hS.2.1 q h1 h2, fun q hq => by
      rcases List.mem_append.mp hq with h | h
      · exact hS.2.2 q h
      · exact hfr _ (hL q h)⟩ (T'.setVm vm₂) rfl X₂
  refine ⟨t2, hstep₁ _ (fun acts => ?_), b1⟩
  rw [doInvoke_state]
  refine hsteps.trans ?_
  rw [ht]
  exact hst2 _ a1
end XC
/-- the table of a body with handlers -/
theorem xtab {p : Program} {l : Launch} {y : MethodName} {S : Spec} {cc bytes : ByteArray} {maxL maxL' : Nat} {ret ret' : Option FieldType} {e : Env} {s s₁ : State} {m : MethodId} {args : Array Value} {below : List Frame} {meth : Method} {c : Code} {hh : List (Nat × Nat × Nat × Nat)}
    (B : BodyLoose p l y S cc maxL ret e s m args below meth c s₁) (h : (Cond.codeWith y bytes maxL' ret' hh).before args s = true) : c.exceptionTable.toList = tableOf hh := by
  obtain ⟨m9, meth9, c9, hn9, h1, h2, -, -, h6, -⟩ := Cond.codeWith_spec h
  cases Option.some.inj (hn9.symm.trans B.named)
  cases Option.some.inj (h1.symm.trans B.method)
  cases Option.some.inj (h2.symm.trans (Stand.of_body B).code)
  rw [← h6, table_eq]
/-- a static call of a method with a table of its own -/
theorem xcwS {R : Room} {s : State} {args : Array Value} {own : String} {index maxL mc ms : Nat} {y : MethodName} {bytes : ByteArray} {ret : Option FieldType} {hh : List (Nat × Nat × Nat × Nat)} {p : Program} {l : Launch} {e : Env} {m : MethodId} {below : List Frame} {meth : Method} {c : Code} {H : Heap} {locs : List Loc} {cells slots : Nat} {Ts ws ws' : List Cond} {cc : ByteArray} {nL : Nat} {rm : Room} {Pc : Array Value → State → Prop} {Qc : Array Value → State → Outcome → State → Prop} {free : Addr → Prop} {As rest : List Value} {g : JFrame} (n : Nat)
    (S : CallFix p m c cc nL s args Ts own) (hM : Met l y ws rm Pc Qc mc ms free) (hT : GoodIn Ts (va_wsS own index y ws)) (hw : ws = Cond.codeWith y bytes maxL ret hh :: ws') (hrc : rm.cells = mc) (hrs : rm.slots = ms)
    (hd : y.cls ≠ "java/lang/invoke/MethodHandle" ∧ y.cls ≠ "java/lang/invoke/VarHandle" ∧ (parseMethodDescriptor y.desc).map (fun d => d.parameters.length) = some n) (hR : rm.frames + 1 ≤ R.frames ∧ 8 + (maxL + 11) + rm.locals ≤ R.locals) (hp : PreS s H Pc As)
    (hg : g.method = m) (hn : As.length = n) (hsize : g.locals.size = nL) (hstack : g.stack = As.reverse ++ rest) (hW : 2 * g.monitorRoom + (rest.map fun v => v.category).sum ≤ 8) (hdg : decode cc g.pc = .ok (.invokestatic index, 3)) (hf : cells + mc ≤ R.cells ∧ slots + ms ≤ R.slots) :
    va_Run p l e R s m args below meth c H locs cells slots mc ms g rest (Qc As.toArray) (free) := by
  obtain ⟨hx, hb, hml, ho, ht⟩ := S
  have ok : ∀ w ∈ va_wsS own index y ws, w.before args s = true := fun w h => ht w (hT w h).1
  have hG : GoodIn Ts ws := fun w h => hT w (by unfold va_wsS; exact List.mem_append_right _ h)
  have hc : Cond.codeWith y bytes maxL ret hh ∈ ws := by rw [hw]; exact List.mem_cons_self
  have hcode := ht _ (hG _ hc).1
  have hini : (Cond.initialized y.cls).before args s = true := ok _ (by simp [va_wsS])
  have hl : (Cond.methodLink own index y).before args s = true := ok _ (by simp [va_wsS])
  have hstt : (Cond.static y).before args s = true := ok _ (by simp [va_wsS])
  have hy : y.cls ≠ "java/lang/invoke/MethodHandle" ∧ y.cls ≠ "java/lang/invoke/VarHandle" := ⟨hd.1, hd.2.1⟩
  have hK : Back l R p e below s args y 3 8 (PreOf R mc ms Pc) (PostOf Qc mc ms free) := va_backW (hh := hh) (bytes := bytes) (maxL := maxL) (ret := ret) hM hp.1 hrc hrs hR.1 hR.2 (pay_in ht hG) hc (fun a' U hW => word_at hW (Or.inl (by first | rfl | simp [Cond.onTables, Cond.keeps, Cond.steady])) hini)
  intro T hT9 X
  obtain ⟨mk, methM, cM, hnamed, hmethM, -, -, -, -, -, -, hsigM⟩ := Cond.codeWith_spec hcode
  have hstatic : methM.isStatic = true := Cond.static_spec hnamed hmethM hstt
  obtain ⟨kP, hkP, -⟩ := className_of_methodNamed hnamed
  have hinitP : kP.init = .initialized := Cond.initialized_spec (findClass_of_methodNamed hnamed) hkP hini
  have hlen : As.length = methM.sig.parameters.length := by
    have h2 := hd.2.2
    rw [hsigM] at h2
    rw [hn]
    exact (Option.some.inj h2).symm
  obtain ⟨vm₁, X₁, hstep₁⟩ := X.invokestatic hx ho hl hnamed hmethM hstatic hkP hinitP hy (g := g) hg (argsL := As) (rest := rest) hlen hstack (by rw [hb]; exact hdg)
  obtain ⟨v, ⟨U', l2, c2, s2⟩, X', ⟨g', mk', t, L, e1, e2, hq, h1, hL, h2, h3⟩, hsteps⟩ := hK m meth c ⟨T.setVm vm₁, locs, cells, slots⟩ { g with stack := rest } (.invokestatic index) mk As.toArray X₁ hg (hsize.trans hml.symm) (by rw [hb]; exact hdg) hW (X₁.named hnamed) ⟨hf.1, hf.2, hp.2 (T.setVm vm₁) hT9 X₁.warmed⟩
  dsimp only [Pt.U, Pt.locs, Pt.cells, Pt.slots] at X' e1 e2 h1 h2 h3 hsteps
  subst h1; subst h2; subst h3
  exact ⟨v, (T.setVm vm₁).calling g' mk' As.toArray, t, U', L, hT9, X', hL, e1, e2, hq, fun target h => hstep₁ _ fun acts => by rw [doInvoke_state]; exact hsteps.trans h⟩
