/-! Methods that catch: their frame, what they call, their answers. -/
def G0 (X : Cx) (w0 : Cond) (cc : ByteArray) (nL : Nat) (fr lo : Nat) (own : String) : Prop :=
  Gx X cc ∧ (xc X).maxLocals = nL ∧ (xs X).vm.findClass own = some (xm X).cls ∧ (∀ w ∈ (w0 :: wA), w.before (xa X) (xs X) = true) ∧ Kk (xP X) (xs X) ∧
  ((xR X).frames = fr ∧ (xR X).locals = lo ∧ (xR X).cells = cC (xP X) (xs X).heap.size ∧ (xR X).slots = cS (xP X) (tot (xs X).heap)) ∧ xZ (fun a => (xP X).1 ≤ a) (xs X) (xs X).heap ∧ N3 (xs X)
def GdW (X : Cx) (w0 : Cond) (cc : ByteArray) (nL : Nat) (ret : Option FieldType) (fr lo : Nat) (own : String) (hh : List (Nat × Nat × Nat × Nat)) : Prop :=
  G0 X w0 cc nL fr lo own ∧ (xh X).sig.returnType = ret ∧ (xh X).locks = false ∧ (xc X).exceptionTable.toList = tableOf hh
def CtW (l : Launch) (y : MethodName) (cc : ByteArray) (nL : Nat) (ret : Option FieldType) (hh : List (Nat × Nat × Nat × Nat)) (fr lo : Nat) (P : PP) (L : List Nat) (q : PL) (s : S1) (argv : List Value) (rv : PL → Option Value) (n' : Nat × Nat) (s' : S1) : Prop :=
  Met l y (Cond.codeWith y cc nL ret hh :: wA) { frames := fr, cells := cC P q.2.1, slots := cS P q.2.2, locals := lo } (va_Pc argv (PeZ P q s)) (QeX P L q n' s' rv) (cC P q.2.1) (cS P q.2.2) (fun a => P.1 ≤ a)
theorem ctW_of {l : Launch} {y : MethodName} {cc : ByteArray} {nL : Nat} {ret : Option FieldType} {hh : List (Nat × Nat × Nat × Nat)} {fr lo : Nat} {P : PP} {L : List Nat} {q : PL} {s : S1} {argv : List Value} {rv : PL → Option Value} {n' : Nat × Nat} {s' : S1}
    (hy : plainName y.cls = true) (hn : (lg_sl argv).length ≤ nL)
    (k : ∀ (X : Cx) (ls : Array Slot), xP X = P → xl X = l → GdW X (Cond.codeWith y cc nL ret hh) cc nL ret fr lo y.cls hh → RtX X L q n' s' rv → lv_has ls nL (lv_args 0 argv) → WW X q s 0 ls []) : CtW l y cc nL ret hh fr lo P L q s argv rv n' s' := by
  refine va_MetW (cc := cc) (maxL := nL) (ret := ret) (hh := hh) hy rfl ?_
  intro p e s0 m args below meth c s₁ B hml hv
  obtain ⟨rfl, ⟨hW, hK⟩, hZ⟩ := hv
  have hts := atoms_spec (ws := Cond.codeWith y cc nL ret hh :: wA) B.pre
  have hTab := xtab B (hts (.codeWith y cc nL ret hh) List.mem_cons_self)
  have e1 : s0.heap.size = q.2.1 := hW.1
  have e2 : tot s0.heap = q.2.2 := hW.2.1
  have hl := lv_entry argv (n := nL) hn
  rw [lg_entry_eq]
  have z := k ((p, l, e, (headSpec (Cond.codeWith y cc nL ret hh :: wA) { frames := fr, cells := cC P q.2.1, slots := cS P q.2.2, locals := lo }).room, s0, m), (argv.toArray, below, meth, c), MQ below (QeX P L q n' s' rv) argv.toArray s0 (cC P q.2.1) (cS P q.2.2) (fun a => P.1 ≤ a), P) _ rfl rfl
    ⟨⟨⟨B.exec, B.bytes⟩, hml, findClass_of_methodNamed B.named, hts, hK, ⟨rfl, rfl, by show cC P q.2.1 = cC P s0.heap.size; rw [e1], by show cS P q.2.2 = cS P (tot s0.heap); rw [e2]⟩, hZ⟩, B.returns, B.notSynchronized, hTab⟩
    (by unfold RtX; show MQ _ _ _ _ _ _ _ = MQ _ _ _ _ (cC P s0.heap.size) (cS P (tot s0.heap)) _; rw [e1, e2]) hl s0.heap [] hW va_S.rf
  exact w_tight (by omega) (by omega) z
theorem pez_blind (P : PP) (q : PL) (s : S1) (av : List Value) : FrameBlind (va_Pc av (PeZ P q s)) := fun a U g mk h => ⟨h.1, ⟨h.2.1.1, Kk.at (s := U) (U := U.calling g mk a) (State.WarmedH.refl U) (fun _ _ _ => rfl) h.2.1.2⟩, xZ.moved (u := U) (U := U.calling g mk a) (Vm.Alike.refl U.vm) h.2.2.1, N3.moved (u := U) (U := U.calling g mk a) (Vm.Alike.refl U.vm) h.2.2.2⟩
/-! The room is parted: another number is kept for others. -/
def pkP (P : PP) (a b : Nat) : PP := (P.1, P.2.1, (fun r => if r = 3000 then a else if r = 3001 then b else P.2.2.1 r), P.2.2.2)
theorem pk_r {P : PP} {a b r : Nat} (h : r < 3000) : (pkP P a b).2.2.1 r = P.2.2.1 r := by
  show (if r = 3000 then a else if r = 3001 then b else P.2.2.1 r) = _
  rw [if_neg (by omega), if_neg (by omega)]
theorem pk_back (P : PP) (a b : Nat) : pkP (pkP P a b) (P.2.2.1 3000) (P.2.2.1 3001) = P := by
  have : (fun r => if r = 3000 then P.2.2.1 3000 else if r = 3001 then P.2.2.1 3001 else (if r = 3000 then a else if r = 3001 then b else P.2.2.1 r)) = P.2.2.1 := by
    funext r
    by_cases h : r = 3000
    · rw [if_pos h, h]
    · by_cases h2 : r = 3001
      · rw [if_neg h, if_pos h2, h2]
      · rw [if_neg h, if_neg h2, if_neg h, if_neg h2]
  show (P.1, P.2.1, _, P.2.2.2) = P
  rw [show (fun r => if r = 3000 then P.2.2.1 3000 else if r = 3001 then P.2.2.1 3001 else (pkP P a b).2.2.1 r) = P.2.2.1 from this]
theorem rk_lt {r : Nat} (h : rkF r ≠ 7) : r < 160 := by
  by_cases hr : r < 160
  · exact hr
  · exfalso
    revert h
    unfold rkF
    split <;> first | omega | (intro z; exact z rfl)
theorem sb_ok : ∀ r, r < 160 → rkF r = 6 → lnF r ≠ 0 ∧ sbF r + lnF r < 2000 := by decide +kernel
theorem nst_ok : nSt < 1000 := by decide +kernel
theorem Wd.pk {P : PP} {q : PL} {s : S1} {H : Heap} {a b : Nat} (h : Wd P q s H) : Wd (pkP P a b) q s H := by
  obtain ⟨h1, h2, h3, h4⟩ := h
  refine ⟨h1, h2, fun r i hp => ?_, h4⟩
  obtain ⟨c1, c2, c3⟩ := h3 r i hp
  refine ⟨?_, c2, c3⟩
  have hr := big_np hp
  unfold cellAt at c1 ⊢
  by_cases h0 : rkF r = 0
  · rw [if_pos h0] at c1 ⊢
    exact c1
  · rw [if_neg h0] at c1 ⊢
    rw [c1, pk_r (by omega)]
    refine congrArg some (arrV_congr fun j hj => ?_)
    unfold avP
    by_cases h6 : rkF r = 6
    · rw [if_pos h6, if_pos h6]
      obtain ⟨z1, z2⟩ := sb_ok r hr h6
      unfold lnS at hj
      rw [if_neg z1] at hj
      show Value.ref _ = Value.ref _
      rw [pk_r (by omega)]
    · rw [if_neg h6, if_neg h6]
theorem Wd.pkb {P : PP} {q : PL} {s : S1} {H : Heap} {a b : Nat} (h : Wd (pkP P a b) q s H) : Wd P q s H := by
  have z := Wd.pk (a := P.2.2.1 3000) (b := P.2.2.1 3001) h
  rw [pk_back] at z
  exact z
theorem Kk.pk {P : PP} {U : State} {a b : Nat} (h : Kk P U) : Kk (pkP P a b) U := by
  obtain ⟨k1, k2, k3, ⟨x1, x2, x3⟩, k5⟩ := h
  refine ⟨k1, fun r => ?_, k3, ⟨x1, x2, fun n hn => ?_⟩, fun r h0 h7 => ?_⟩
  · by_cases h7 : rkF r = 7
    · refine ⟨fun z => ?_, fun z => ?_, fun z => ?_, fun z => ?_, fun z z2 => absurd h7 z2⟩ <;> omega
    · have := rk_lt h7
      rw [pk_r (by omega)]
      exact k2 r
  · have := nst_ok
    have z := x3 n hn
    unfold aK aV at z ⊢
    rw [pk_r (by omega), pk_r (by omega)]
    exact z
  · have := rk_lt h7
    rw [pk_r (by omega)]
    exact k5 r h0 h7
section WR
variable {X : Cx} {q : PL} {s s1 : S1} {w0 : Cond} {y : MethodName} {cc bytes : ByteArray} {nL maxL : Nat} {ret0 ret : Option FieldType} {fr0 lo0 fr lo : Nat} {own : String} {hh : List (Nat × Nat × Nat × Nat)} {pc : Nat} {ls : Array Slot} {rest st0 : List Value} {r : Nat} {i : Int32} {C : String} {T : u_T} {ty : Nat → FieldType} {n index : Nat} {L : List Nat} {n1 : Nat × Nat} {rv : PL → Option Value} {As : List Value}
theorem wt_afterX (g : G0 X w0 cc nL fr0 lo0 own) {a : Array Value}
    (hr : ∀ (H : Heap) (locs : List Loc) (cells slots : Nat), Wd (xP X) q s H → va_S (fun a => (xP X).1 ≤ a) (xs X).heap H locs → (cells + cC (xP X) q.2.1 ≤ (xR X).cells ∧ slots + cS (xP X) q.2.2 ≤ (xR X).slots) → va_Run (xp X) (xl X) (xe X) (xR X) (xs X) (xm X) (xa X) (xb X) (xh X) (xc X) H locs cells slots (cC (xP X) q.2.1) (cS (xP X) q.2.2) (F0 (xm X) pc ls st0) rest (QeX (xP X) L q n1 s1 rv a) (fun a => (xP X).1 ≤ a))
    (kk : ∀ q1, Exq (xP X) L q q1 → Rmq (xP X) q1 n1 → WW X q1 s1 (pc + 3) ls ((rv q1).toList ++ rest)) : WW X q s pc ls st0 := by
  intro H locs hW hS
  refine w_grow fun z1 z2 => ?_
  refine w_tight (k := H.size - (xs X).heap.size) (n := tot H - tot (xs X).heap) (by omega) (by omega) ?_
  have e1 := hW.1
  have e2 := hW.2.1
  obtain ⟨e3, e4, -⟩ := hW.2.2.2.2
  have hR := g.2.2.2.2.2.1
  have f1 : H.size - (xs X).heap.size + cC (xP X) q.2.1 ≤ cC (xP X) (xs X).heap.size := by unfold cC; omega
  have f2 : tot H - tot (xs X).heap + cS (xP X) q.2.2 ≤ cS (xP X) (tot (xs X).heap) := by unfold cS; omega
  have hrun := hr H locs (H.size - (xs X).heap.size) (tot H - tot (xs X).heap) hW hS (by rw [hR.2.2.1, hR.2.2.2]; exact ⟨f1, f2⟩)
  intro T hT Xs
  obtain ⟨v, st0, t, T', L', h0, X', hL, e5, e6, ⟨q1, hv, hx1, hn1, hWd, hF⟩, st⟩ := hrun T hT Xs
  cases hv
  obtain ⟨t2, a1, b1⟩ := kk q1 hx1 hn1 T'.heap (locs ++ L') (by rw [e5]; exact hWd)
    ⟨by rw [e5]; exact Nat.le_trans hS.1 (h0 ▸ hF.1), fun a ha hn => by rw [e5, hF.2 a (by rw [h0]; exact Nat.lt_of_lt_of_le ha hS.1) hn, h0]; exact hS.2.1 a ha hn, fun a ha => by
      rcases List.mem_append.mp ha with z | z
      · exact hS.2.2 a z
      · exact hL a z⟩ T' rfl (stand_widen X' f1 f2)
  exact ⟨t2, st t2 a1, b1⟩
theorem ct_ctX {l : Launch} {P : PP} {s' : S1} {argv : List Value} {rw : Option Value} {n : Nat × Nat} (h : Ct l y cc nL ret fr lo P q s argv rw q s') (hm : Rmq P q n) : CtX l y cc nL ret fr lo P [] q s argv (fun _ => rw) n s' := by
  intro p e a1 a2 a3 s0 m args below b1 b2 b3 b4
  obtain ⟨k, o, c1, c2, c3, c4, c5⟩ := h p e a1 a2 a3 s0 m args below b1 b2 b3 b4
  exact ⟨k, o, c1, c2, c3, ⟨q, c4.1, Exq.rf, hm, c4.2⟩, c5⟩
/-- a call that returns -/
theorem wt_callX (g : G0 X w0 cc nL fr0 lo0 own) (hv : CV y bytes maxL ret n) (hm : Cond.methodLink own index y ∈ wA) (hc : ClF r y.cls T ty) (hp : prs s r i) (hM : CtX (xl X) y bytes maxL ret fr lo (xP X) L q s (.ref (q.1 r i) :: As) rv n1 s1)
    (hR : fr + 1 ≤ fr0 ∧ 8 + (maxL + 11) + lo ≤ lo0) (hn : As.length = n) (hsz : ls.size = nL) (hrest : (rest.map fun v => v.category).sum ≤ 8) (hdg : decode cc pc = .ok (.invokevirtual index, 3)) (hst : st0 = As.reverse ++ .ref (q.1 r i) :: rest)
    (kk : ∀ q1, Exq (xP X) L q q1 → Rmq (xP X) q1 n1 → WW X q1 s1 (pc + 3) ls ((rv q1).toList ++ rest)) : WW X q s pc ls st0 := by
  subst hst
  obtain ⟨v1, v2, v3, v4, v5⟩ := hv
  have g' := g
  obtain ⟨⟨hx, hb⟩, hml, hown, hts, hK, ⟨hR1, hR2, -, -⟩, -⟩ := g'
  refine wt_afterX g (a := (Value.ref (q.1 r i) :: As).toArray) (fun H locs cells slots hW hS hf => ?_) kk
  have hcell := (hW.2.2.1 r i hp).1
  unfold cellAt at hcell
  rw [if_pos hc.1] at hcell
  obtain ⟨cell, q1', q2, q3, q4⟩ := hcell
  obtain ⟨hSl, hfc, kC, hkC, hkind⟩ := hK.1.1 (ciF r) _ hc.2.1
  have hpre : PreV (xs X) H y.cls (q.1 r i) (va_Pc (.ref (q.1 r i) :: As) (Pe (xP X) q s)) As := ⟨pe_blind _ _ _ _, ⟨cell, q1', by rw [q3]; rfl, by rw [q2]; exact hfc⟩, fun U hU hWm => ⟨rfl, by rw [hU]; exact hW, Kk.at hWm (by rw [hU]; exact hS.2.1) hK⟩⟩
  exact va_runV (Ts := w0 :: wA) ⟨hx, hb, hml, hown, hts⟩ hM (cwV n hts (gV hm v1 v2 v3 v4) rfl rfl rfl ⟨rfl, v5⟩ (by rw [hR1, hR2]; exact hR)) hpre rfl hn hsz rfl (lv_room hrest) hdg hf
/-- a call that throws, and the row that catches -/
theorem wt_callT (g : GdW X w0 cc nL ret0 fr0 lo0 own hh) (hv : CV y bytes maxL ret n) (hm : Cond.methodLink own index y ∈ wA) (hc : ClF r y.cls T ty) (hp : prs s r i) {E name : String} (hM : CtT (xl X) y bytes maxL ret fr lo (xP X) L q s (.ref (q.1 r i) :: As) E n1 s1)
    (hR : fr + 1 ≤ fr0 ∧ 8 + (maxL + 11) + lo ≤ lo0) (hn : As.length = n) (hsz : ls.size = nL) (hrest : (rest.map fun v => v.category).sum ≤ 8) (hdg : decode cc pc = .ok (.invokevirtual index, 3)) (hst : st0 = As.reverse ++ .ref (q.1 r i) :: rest)
    (pre : List ExceptionTableEntry) (x : ExceptionTableEntry) (suf : List ExceptionTableEntry) (hsplit : tableOf hh = pre ++ x :: suf)
    (hpre : ∀ y ∈ pre, covers y pc = true ∧ y.catchType ≠ 0 ∧ ∃ nm : String, Cond.classLink own y.catchType nm ∈ wA ∧ va_Nc E nm (xs X)) (hx : covers x pc = true) (h0 : x.catchType ≠ 0)
    (hlink : Cond.classLink own x.catchType name ∈ wA) (hcast : Cond.castable E name ∈ xW) (hct : (Cond.castable E name).onTables = true)
    (kk : ∀ (q9 : Nat) (q1 : PL), Exq (xP X) L q q1 → Rmq (xP X) q1 (n1.1 - 1, n1.2 - 6) → WW X q1 s1 x.handlerPc ls [.ref q9]) : WW X q s pc ls st0 := by
  subst hst
  obtain ⟨v1, v2, v3, v4, v5⟩ := hv
  obtain ⟨⟨⟨hx1, hb⟩, hml, hown, hts, hK, ⟨hR1, hR2, hR3, hR4⟩, hZ, hN⟩, -, -, hTab⟩ := g
  intro H locs hW hS
  refine w_grow fun z1 z2 => ?_
  refine w_tight (k := H.size - (xs X).heap.size) (n := tot H - tot (xs X).heap) (by omega) (by omega) ?_
  have e1 := hW.1
  have e2 := hW.2.1
  obtain ⟨e3, e4, -⟩ := hW.2.2.2.2
  have f1 : H.size - (xs X).heap.size + cC (xP X) q.2.1 ≤ cC (xP X) (xs X).heap.size := by unfold cC; omega
  have f2 : tot H - tot (xs X).heap + cS (xP X) q.2.2 ≤ cS (xP X) (tot (xs X).heap) := by unfold cS; omega
  have hcell := (hW.2.2.1 r i hp).1
  unfold cellAt at hcell
  rw [if_pos hc.1] at hcell
  obtain ⟨cell, q1', q2, q3, q4⟩ := hcell
  obtain ⟨hSl, hfc, kC, hkC, hkind⟩ := hK.1.1 (ciF r) _ hc.2.1
  have hpreV : PreV (xs X) H y.cls (q.1 r i) (va_Pc (.ref (q.1 r i) :: As) (PeZ (xP X) q s)) As := ⟨pez_blind _ _ _ _, ⟨cell, q1', by rw [q3]; rfl, by rw [q2]; exact hfc⟩, fun U hU hWm => ⟨rfl, ⟨by rw [hU]; exact hW, Kk.at hWm (by rw [hU]; exact hS.2.1) hK⟩, by rw [hU]; exact xZ.moved hWm.alike (hZ.kept hS.2.1), hN.moved hWm.alike⟩⟩
  refine xcall (A0 := fun a => (xP X).1 ≤ a) (A1 := fun a => (xP X).1 ≤ a) (Ts := w0 :: wA) (name := name) ⟨hx1, hb, hml, hown, hts⟩ hM (cwV n hts (gV hm v1 v2 v3 v4) rfl rfl rfl ⟨rfl, v5⟩ (by rw [hR1, hR2]; exact hR)) hpreV hn hsz rfl hrest hdg (by rw [hR3, hR4]; exact ⟨f1, f2⟩) hS (fun _ _ h => h) (fun _ h => h) (fun st t h => by obtain ⟨q1, -, -, -, hF⟩ := h; exact hF) pre x suf (by rw [hTab]; exact hsplit)
    (fun y hy => by obtain ⟨a1, a2, nm, a3, a4⟩ := hpre y hy; exact ⟨a1, a2, nm, hts _ (List.mem_cons_of_mem _ a3), a4⟩) hx h0 (hts _ (List.mem_cons_of_mem _ hlink)) (va_Nw.use hct (hK.2.2.1 _ hcast)) (fun q9 t H1 locs1 ht hvm hQ hz hk hS1 => ?_)
  obtain ⟨st, -, q1, hE, hRm, hWd, -⟩ := hQ
  refine W.widen f1 f2 ?_
  exact kk q9 q1 hE hRm H1 locs1 (by rw [← ht]; exact hWd) hS1
/-- a static call of a method that catches, with a part of the room -/
theorem wt_callS (g : G0 X w0 cc nL fr0 lo0 own) (P' : PP) (eP : ∃ a b, P' = pkP (xP X) a b) (hv : Cond.static y ∈ wA ∧ Cond.initialized y.cls ∈ wA ∧ Cond.codeWith y bytes maxL ret hh ∈ wA ∧ (y.cls ≠ "java/lang/invoke/MethodHandle" ∧ y.cls ≠ "java/lang/invoke/VarHandle" ∧ (parseMethodDescriptor y.desc).map (fun d => d.parameters.length) = some n)) (hm : Cond.methodLink own index y ∈ wA) (hM : CtW (xl X) y bytes maxL ret hh fr lo P' L q s As rv n1 s1)
    (hR : fr + 1 ≤ fr0 ∧ 8 + (maxL + 11) + lo ≤ lo0) (hn : As.length = n) (hsz : ls.size = nL) (hrest : (rest.map fun v => v.category).sum ≤ 8) (hdg : decode cc pc = .ok (.invokestatic index, 3)) (hst : st0 = As.reverse ++ rest)
    (kk : ∀ q1, Exq (xP X) L q q1 → Rmq P' q1 n1 → WW X q1 s1 (pc + 3) ls ((rv q1).toList ++ rest)) : WW X q s pc ls st0 := by
  subst hst
  obtain ⟨a, b, rfl⟩ := eP
  obtain ⟨v1, v3, v4, v5⟩ := hv
  have g' := g
  obtain ⟨⟨hx, hb⟩, hml, hown, hts, hK, ⟨hR1, hR2, hR3, hR4⟩, hZ, hN⟩ := g'
  intro H locs hW hS
  refine w_grow fun z1 z2 => ?_
  refine w_tight (k := H.size - (xs X).heap.size) (n := tot H - tot (xs X).heap) (by omega) (by omega) ?_
  have e1 := hW.1
  have e2 := hW.2.1
  obtain ⟨e3, e4, -⟩ := hW.2.2.2.2
  have f1 : H.size - (xs X).heap.size + cC (xP X) q.2.1 ≤ cC (xP X) (xs X).heap.size := by unfold cC; omega
  have f2 : tot H - tot (xs X).heap + cS (xP X) q.2.2 ≤ cS (xP X) (tot (xs X).heap) := by unfold cS; omega
  have hpre : PreS (xs X) H (va_Pc As (PeZ (pkP (xP X) a b) q s)) As := ⟨pez_blind _ _ _ _, fun U hU hWm => ⟨rfl, ⟨by rw [hU]; exact hW.pk, (Kk.at hWm (by rw [hU]; exact hS.2.1) hK).pk⟩, by rw [hU]; exact xZ.moved hWm.alike (hZ.kept hS.2.1), hN.moved hWm.alike⟩⟩
  have hrun := xcwS (H := H) (locs := locs) (cells := H.size - (xs X).heap.size) (slots := tot H - tot (xs X).heap) (g := F0 (xm X) pc ls (As.reverse ++ rest)) (rest := rest) (R := xR X) (e := xe X) (p := xp X) (below := xb X) (meth := xh X) (c := xc X) (Ts := w0 :: wA) n ⟨hx, hb, hml, hown, hts⟩ hM (gS hm v1 v3 v4) rfl rfl rfl v5 (by rw [hR1, hR2]; exact hR) hpre rfl hn hsz rfl (lv_room hrest) hdg (by rw [hR3, hR4]; exact ⟨f1, f2⟩)
  intro T hT Xs
  obtain ⟨v, st0, t, T', L', h0, X', hL, e5, e6, ⟨q1, hv, hx1, hn1, hWd, hF⟩, st⟩ := hrun T hT Xs
  cases hv
  obtain ⟨t2, a1, b1⟩ := kk q1 hx1 hn1 T'.heap (locs ++ L') (by rw [e5]; exact hWd.pkb)
    ⟨by rw [e5]; exact Nat.le_trans hS.1 (h0 ▸ hF.1), fun a ha hn => by rw [e5, hF.2 a (by rw [h0]; exact Nat.lt_of_lt_of_le ha hS.1) hn, h0]; exact hS.2.1 a ha hn, fun a ha => by
      rcases List.mem_append.mp ha with z | z
      · exact hS.2.2 a z
      · exact hL a z⟩ T' rfl (stand_widen X' f1 f2)
  exact ⟨t2, st t2 a1, b1⟩
/-- a call of a method that returns, with a part of the room -/
theorem wt_callP (g : G0 X w0 cc nL fr0 lo0 own) (P' : PP) (eP : ∃ a b, P' = pkP (xP X) a b) (hv : CV y bytes maxL ret n) (hm : Cond.methodLink own index y ∈ wA) (hc : ClF r y.cls T ty) (hp : prs s r i) (hM : CtX (xl X) y bytes maxL ret fr lo P' L q s (.ref (q.1 r i) :: As) rv n1 s1)
    (hR : fr + 1 ≤ fr0 ∧ 8 + (maxL + 11) + lo ≤ lo0) (hn : As.length = n) (hsz : ls.size = nL) (hrest : (rest.map fun v => v.category).sum ≤ 8) (hdg : decode cc pc = .ok (.invokevirtual index, 3)) (hst : st0 = As.reverse ++ .ref (q.1 r i) :: rest)
    (kk : ∀ q1, Exq (xP X) L q q1 → Rmq P' q1 n1 → WW X q1 s1 (pc + 3) ls ((rv q1).toList ++ rest)) : WW X q s pc ls st0 := by
  subst hst
  obtain ⟨a, b, rfl⟩ := eP
  obtain ⟨v1, v2, v3, v4, v5⟩ := hv
  have g' := g
  obtain ⟨⟨hx, hb⟩, hml, hown, hts, hK, ⟨hR1, hR2, hR3, hR4⟩, hZ, hN⟩ := g'
  intro H locs hW hS
  refine w_grow fun z1 z2 => ?_
  refine w_tight (k := H.size - (xs X).heap.size) (n := tot H - tot (xs X).heap) (by omega) (by omega) ?_
  have e1 := hW.1
  have e2 := hW.2.1
  obtain ⟨e3, e4, -⟩ := hW.2.2.2.2
  have f1 : H.size - (xs X).heap.size + cC (xP X) q.2.1 ≤ cC (xP X) (xs X).heap.size := by unfold cC; omega
  have f2 : tot H - tot (xs X).heap + cS (xP X) q.2.2 ≤ cS (xP X) (tot (xs X).heap) := by unfold cS; omega
  have hcell := (hW.2.2.1 r i hp).1
  unfold cellAt at hcell
  rw [if_pos hc.1] at hcell
  obtain ⟨cell, q1', q2, q3, q4⟩ := hcell
  obtain ⟨hSl, hfc, kC, hkC, hkind⟩ := hK.1.1 (ciF r) _ hc.2.1
  have hpre : PreV (xs X) H y.cls (q.1 r i) (va_Pc (.ref (q.1 r i) :: As) (Pe (pkP (xP X) a b) q s)) As := ⟨pe_blind _ _ _ _, ⟨cell, q1', by rw [q3]; rfl, by rw [q2]; exact hfc⟩, fun U hU hWm => ⟨rfl, by rw [hU]; exact hW.pk, (Kk.at hWm (by rw [hU]; exact hS.2.1) hK).pk⟩⟩
  have hrun := va_runV (H := H) (locs := locs) (cells := H.size - (xs X).heap.size) (slots := tot H - tot (xs X).heap) (g := F0 (xm X) pc ls (As.reverse ++ .ref (q.1 r i) :: rest)) (rest := rest) (R := xR X) (e := xe X) (p := xp X) (below := xb X) (meth := xh X) (c := xc X) (Ts := w0 :: wA) ⟨hx, hb, hml, hown, hts⟩ hM (cwV n hts (gV hm v1 v2 v3 v4) rfl rfl rfl ⟨rfl, v5⟩ (by rw [hR1, hR2]; exact hR)) hpre rfl hn hsz rfl (lv_room hrest) hdg (by rw [hR3, hR4]; exact ⟨f1, f2⟩)
  intro T hT Xs
  obtain ⟨v, st0, t, T', L', h0, X', hL, e5, e6, ⟨q1, hv, hx1, hn1, hWd, hF⟩, st⟩ := hrun T hT Xs
  cases hv
  obtain ⟨t2, a1, b1⟩ := kk q1 hx1 hn1 T'.heap (locs ++ L') (by rw [e5]; exact hWd.pkb)
    ⟨by rw [e5]; exact Nat.le_trans hS.1 (h0 ▸ hF.1), fun a ha hn => by rw [e5, hF.2 a (by rw [h0]; exact Nat.lt_of_lt_of_le ha hS.1) hn, h0]; exact hS.2.1 a ha hn, fun a ha => by
      rcases List.mem_append.mp ha with z | z
      · exact hS.2.2 a z
      · exact hL a z⟩ T' rfl (stand_widen X' f1 f2)
  exact ⟨t2, st t2 a1, b1⟩
/-- an element of a row of longs -/
theorem wt_al (g : G0 X w0 cc nL fr lo own) {a : Nat} {j : Int32} (hp : prs s a i) (ha : rkF a = 4) (hj : 0 ≤ j ∧ j.toNatClampNeg < lnS s a i) (hdg : decode cc pc = .ok (.laload, 1)) (kk : WW X q s (pc + 1) ls (.long (gB s a i j) :: rest)) : WW X q s pc ls (.int j :: .ref (q.1 a i) :: rest) := by
  intro H locs hW hS
  obtain ⟨⟨hx, hb⟩, -, hown, hts, hK, -⟩ := g
  have hin : ¬ (j < 0 ∨ lnS s a i ≤ j.toNatClampNeg) := by
    rintro (z | z)
    · exact absurd hj.1 (Int32.not_le.mpr z)
    · omega
  exact W.lald (v := .long (gB s a i j)) hx hb (ar_cell hW hp (by omega) (by omega)) ((hK.2.1 a).2.2.2.1 ha _ _) (fun z => by cases z) (by rw [arrV_size]; exact hin) (by rw [arrV_read _ _ (by omega)]; unfold av; rw [ha]; show some (Value.long (gB s a i (Int32.ofNat _))) = _; rw [i_of_clamp hj.1]) rfl rfl hdg (kk H locs hW hS)
variable {α : Type} {o : α × S1}
theorem wt_sl (g : G0 X w0 cc nL fr lo own) {a : Nat} {j : Int32} {x : Int64} (hp : prs s a i) (ha : rkF a = 4) (hj : 0 ≤ j ∧ j.toNatClampNeg < lnS s a i) (hdg : decode cc pc = .ok (.lastore, 1)) (kk : WW X q (sB s a i j x) (pc + 1) ls rest) : WW X q s pc ls (.long x :: .int j :: .ref (q.1 a i) :: rest) := by
  intro H locs hW hS
  obtain ⟨⟨hx, hb⟩, -, hown, hts, hK, -⟩ := g
  have hin : ¬ (j < 0 ∨ lnS s a i ≤ j.toNatClampNeg) := by
    rintro (z | z)
    · exact absurd hj.1 (Int32.not_le.mpr z)
    · omega
  refine W.last hx hb (ar_cell hW hp (by omega) (by omega)) ((hK.2.1 a).2.2.2.1 ha _ _) (fun z => by cases z) (by rw [arrV_size]; exact hin) rfl rfl hdg fun H1 e z oq => ?_
  exact kk H1 _ (hW.putB hp ha hj.1 e z oq) (hS.put z oq (hW.2.2.1 a i hp).2.1)
variable {q0 : PL} {m : Nat × Nat}
theorem wt_iret (g : GdW X w0 cc nL (some .int) fr lo own hh) {v : Int32} (hR : RtX X L q0 m s (fun _ => some (.int v))) (hx0 : Exq (xP X) L q0 q) (hm : Rmq (xP X) q m) (hdg : decode cc pc = .ok (.ireturn, 1)) : WW X q s pc ls [.int v] := by
  intro H locs hW hS
  obtain ⟨⟨⟨hx, hb⟩, -, hown, hts, hK, -⟩, hr, hlk, -⟩ := g
  rw [hR]
  exact W.iret hx hb hr (fun t ht _ => ⟨q, rfl, hx0, hm, by rw [ht]; exact hW, hS.F ht⟩) hS.2.2 hdg hlk
end WR
