/-! What the tables say in every method; a method's frame; its contract. -/
abbrev aK (P : PP) (n : Nat) : Nat := P.2.2.1 (1000 + n)
abbrev aV (P : PP) (n : Nat) : Nat := P.2.2.1 (2000 + n)
/-- the String constants, and what String's own methods read -/
def Sx (P : PP) (U : State) (H : Heap) : Prop := va_Z "java/lang/String" "COMPACT_STRINGS" "Z" (.int 1) (fun a => P.1 ≤ a) U H ∧ va_Zq "jdk/internal/util/Preconditions" "SIOOBE_FORMATTER" "Ljava/util/function/BiFunction;" (fun a => P.1 ≤ a) U H ∧
  ∀ n, n < nSt → vk_R (stO n) (stI n) (stT n) (aK P n) U ∧ va_O "java/lang/String" (aK P n) (fun a => P.1 ≤ a) U H ∧ va_OF "java/lang/String" "coder" "B" (.int 0) (aK P n) (fun a => P.1 ≤ a) U H ∧ va_OF "java/lang/String" "value" "[B" (.ref (aV P n)) (aK P n) (fun a => P.1 ≤ a) U H ∧ va_T .byte (aV P n) (stL n) (fun j => .int ((stB n).getD j 0)) (fun a => P.1 ≤ a) U H
theorem Sx.at {P : PP} {s U : State} {H H1 : Heap} (hW : s.WarmedH U.vm) (hq : ∀ a : Nat, a < H.size → ¬ P.1 ≤ a → H1[a]? = H[a]?) (h : Sx P s H) : Sx P U H1 := by
  refine ⟨va_Z.moved hW.alike (h.1.kept hq), va_Zq.moved hW.alike (h.2.1.kept hq), fun n hn => ?_⟩
  obtain ⟨a1, a2, a3, a4, a5⟩ := h.2.2 n hn
  exact ⟨vk_R.warm hW a1, va_O.moved hW.alike (a2.kept hq), va_OF.moved hW.alike (a3.kept hq), va_OF.moved hW.alike (a4.kept hq), va_T.moved hW.alike (a5.kept hq)⟩
def Kk (P : PP) (U : State) : Prop := va_K P.2.1 vwCl [] U ∧ (∀ r, (rkF r = 1 → ArrOfT U (P.2.2.1 r) .int) ∧ (rkF r = 2 → ArrOfT U (P.2.2.1 r) .byte) ∧ (rkF r = 3 → ArrOfT U (P.2.2.1 r) .boolean) ∧ (rkF r = 4 → ArrOfT U (P.2.2.1 r) .long) ∧ (5 ≤ rkF r → rkF r ≠ 7 → ∃ C : String, ArrOfT U (P.2.2.1 r) (.object C))) ∧ xB U ∧ Sx P U U.heap ∧ ∀ r, rkF r ≠ 0 → rkF r ≠ 7 → ArrOfT U (P.2.2.1 r) (atF r) ∧ va_RA U (P.2.2.1 r) (atF r)
theorem Kk.at {P : PP} {s U : State} (hW : s.WarmedH U.vm) (hq : ∀ a : Nat, a < s.heap.size → ¬ P.1 ≤ a → U.heap[a]? = s.heap[a]?) (h : Kk P s) : Kk P U := by
  refine ⟨va_K.moved hW.alike h.1, fun r => ?_, xB.warm hW h.2.2.1, Sx.at hW hq h.2.2.2.1, fun r h0 h7 => ⟨arrOfT_moved hW.alike (h.2.2.2.2 r h0 h7).1, (h.2.2.2.2 r h0 h7).2.moved hW.alike⟩⟩
  obtain ⟨a1, a2, a3, a4, a5⟩ := h.2.1 r
  exact ⟨fun e => arrOfT_moved hW.alike (a1 e), fun e => arrOfT_moved hW.alike (a2 e), fun e => arrOfT_moved hW.alike (a3 e), fun e => arrOfT_moved hW.alike (a4 e), fun e e7 => (a5 e e7).elim fun C z => ⟨C, arrOfT_moved hW.alike z⟩⟩
/-- what a method's walk stands on: its code, locals, class, words, tables, room, kind of answer -/
def Gd (X : Cx) (y : MethodName) (cc : ByteArray) (nL : Nat) (ret : Option FieldType) (fr lo : Nat) (own : String) : Prop :=
  Gx X cc ∧ (xc X).maxLocals = nL ∧ (xs X).vm.findClass own = some (xm X).cls ∧ (∀ w ∈ (Cond.code y cc nL ret :: wA), w.before (xa X) (xs X) = true) ∧ Kk (xP X) (xs X) ∧
  ((xR X).frames = fr ∧ (xR X).locals = lo ∧ (xR X).cells = cC (xP X) (xs X).heap.size ∧ (xR X).slots = cS (xP X) (tot (xs X).heap)) ∧ (xh X).sig.returnType = ret ∧ (xh X).locks = false
def Qe (P : PP) (q : PL) (s : S1) (rv : Option Value) : Array Value → State → Outcome → State → Prop := fun _ st oc t => oc = .returned rv ∧ Wd P q s t.heap ∧ va_F (fun a => P.1 ≤ a) st t
def Pe (P : PP) (q : PL) (s : S1) : State → Prop := fun U => Wd P q s U.heap ∧ Kk P U
def Rt (X : Cx) (q : PL) (s : S1) (rv : Option Value) : Prop := xq X = MQ (xb X) (Qe (xP X) q s rv) (xa X) (xs X) (cC (xP X) (xs X).heap.size) (cS (xP X) (tot (xs X).heap)) (fun a => (xP X).1 ≤ a)
def Ct (l : Launch) (y : MethodName) (cc : ByteArray) (nL : Nat) (ret : Option FieldType) (fr lo : Nat) (P : PP) (q : PL) (s : S1) (argv : List Value) (rv : Option Value) (q' : PL) (s' : S1) : Prop :=
  Met l y (Cond.code y cc nL ret :: wA) { frames := fr, cells := cC P q.2.1, slots := cS P q.2.2, locals := lo } (va_Pc argv (Pe P q s)) (Qe P q' s' rv) (cC P q.2.1) (cS P q.2.2) (fun a => P.1 ≤ a)
theorem ct_of {l : Launch} {y : MethodName} {cc : ByteArray} {nL : Nat} {ret : Option FieldType} {fr lo : Nat} {P : PP} {q : PL} {s : S1} {argv : List Value} {rv : Option Value} {q' : PL} {s' : S1}
    (hy : plainName y.cls = true) (hn : (lg_sl argv).length ≤ nL)
    (k : ∀ (X : Cx) (ls : Array Slot), xP X = P → xl X = l → Gd X y cc nL ret fr lo y.cls → Rt X q' s' rv → lv_has ls nL (lv_args 0 argv) → WW X q s 0 ls []) : Ct l y cc nL ret fr lo P q s argv rv q' s' := by
  refine Met.ofW (cc := cc) (maxL := nL) (ret := ret) hy rfl ?_
  intro p e s0 m args below meth c s₁ B hml hv
  obtain ⟨rfl, hW, hK⟩ := hv
  have hts := atoms_spec (ws := Cond.code y cc nL ret :: wA) B.pre
  have e1 : s0.heap.size = q.2.1 := hW.1
  have e2 : tot s0.heap = q.2.2 := hW.2.1
  have hl := lv_entry argv (n := nL) hn
  rw [lg_entry_eq]
  have z := k ((p, l, e, (headSpec (Cond.code y cc nL ret :: wA) { frames := fr, cells := cC P q.2.1, slots := cS P q.2.2, locals := lo }).room, s0, m), (argv.toArray, below, meth, c), MQ below (Qe P q' s' rv) argv.toArray s0 (cC P q.2.1) (cS P q.2.2) (fun a => P.1 ≤ a), P) _ rfl rfl
    ⟨⟨B.exec, B.bytes⟩, hml, findClass_of_methodNamed B.named, hts, hK, ⟨rfl, rfl, by show cC P q.2.1 = cC P s0.heap.size; rw [e1], by show cS P q.2.2 = cS P (tot s0.heap); rw [e2]⟩, B.returns, B.notSynchronized⟩
    (by unfold Rt; show MQ _ _ _ _ _ _ _ = MQ _ _ _ _ (cC P s0.heap.size) (cS P (tot s0.heap)) _; rw [e1, e2]) hl s0.heap [] hW va_S.rf
  exact w_tight (by omega) (by omega) z
