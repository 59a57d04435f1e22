def R_Mth : String := "java/lang/Math"
def R_Arr : String := "java/util/Arrays"
def oF {α : Type} : M α := fun _ => none
theorem oF_no {α : Type} {s : S1} {o : α × S1} (h : oF s = some o) : False := by cases h
/-- a role of rows of a kind, of a length that stands -/
def AK (kd r : Nat) : Prop := rkF r = kd ∧ kd ≠ 0 ∧ kd ≤ 4 ∧ lnF r ≠ 0 ∧ lnF r < 2147483648
theorem ak_n {kd r : Nat} {s : S1} {i : Int32} (h : AK kd r) : (lnI r).toNatClampNeg = lnS s r i := by
  unfold lnS
  rw [if_neg h.2.2.2.1]
  exact nI_clamp h.2.2.2.2
theorem ak_k {kd r : Nat} (h : AK kd r) : rkF r ≠ 0 ∧ rkF r ≤ 4 := by
  rw [h.1]
  exact ⟨h.2.1, h.2.2.1⟩
theorem prs_kI {s s' : S1} {r k : Nat} {i x : Int32} (hk : k < 126) (hs : s' = sI s (128 * r + k) i x) {r' : Nat} {i' : Int32} (h : prs s r' i') : prs s' r' i' := by
  rw [hs]
  exact (prs_sI hk).mpr h
theorem ww_alen {X : Cx} {q : PL} {s : S1} {y : MethodName} {cc : ByteArray} {nL : Nat} {ret : Option FieldType} {fr lo : Nat} {own : String} {pc : Nat} {ls : Array Slot} {rest : List Value} {i : Int32} (g : Gd X y cc nL ret fr lo own) {a : Nat} {n : Int32} (hp : prs s a i) (ha : rkF a ≠ 0 ∧ rkF a ≤ 4) (hn : Int32.ofNat (lnS s a i) = n) (hdg : decode cc pc = .ok (.arraylength, 1)) (kk : WW X q s (pc + 1) ls (.int n :: rest)) : WW X q s pc ls (.ref (q.1 a i) :: rest) := by
  intro H locs hW hS
  obtain ⟨⟨hx, hb⟩, -, hown, hts, hK, -⟩ := g
  have hty : ∃ ty : FieldType, ArrOfT (xs X) ((xP X).2.2.1 a) ty := by
    obtain ⟨a1, a2, a3, a4, -⟩ := hK.2.1 a
    have : rkF a = 1 ∨ rkF a = 2 ∨ rkF a = 3 ∨ rkF a = 4 := by omega
    rcases this with e | e | e | e
    · exact ⟨_, a1 e⟩
    · exact ⟨_, a2 e⟩
    · exact ⟨_, a3 e⟩
    · exact ⟨_, a4 e⟩
  obtain ⟨ty, hty⟩ := hty
  have h31 := (hW.2.2.1 a i hp).2.2
  refine W.alen hx hb (ar_cell hW hp ha.1 (by have := ha.2; omega)) (hty _ _) ?_ rfl rfl hdg (kk H locs hW hS)
  rw [arrV_size]
  exact hn
theorem ak_m {kd r : Nat} {s : S1} {i : Int32} (h : AK kd r) : Int32.ofNat (lnS s r i) = lnI r := by
  unfold lnS lnI
  rw [if_neg h.2.2.2.1]
/-- that something is there, looked at once more -/
def oPr (r : Nat) (i : Int32) : M Unit := fun s => if (dyF r = true → gI s (128 * r + 127) i = 1) ∧ 0 ≤ i ∧ i.toNatClampNeg < cnF r then some ((), s) else none
theorem ww_pr {X : Cx} {q : PL} {s : S1} {pc : Nat} {ls : Array Slot} {st : List Value} {α : Type} {o : α × S1} {r : Nat} {i : Int32} {kt : Unit → M α} (h : oB (oPr r i) kt s = some o) (kk : prs s r i → kt () s = some o → WW X q s pc ls st) : WW X q s pc ls st := by
  unfold oB oPr at h
  by_cases hc : (dyF r = true → gI s (128 * r + 127) i = 1) ∧ 0 ≤ i ∧ i.toNatClampNeg < cnF r
  · rw [if_pos hc] at h
    exact kk hc h
  · rw [if_neg hc] at h
    cases h
/-- a method of a class in a package -/
theorem ct_ofF {l : Launch} {y : MethodName} {cc : ByteArray} {nL : Nat} {ret : Option FieldType} {fr lo : Nat} {P : PP} {q : PL} {s : S1} {argv : List Value} {rv : Option Value} {q' : PL} {s' : S1}
    (hy : plainFor y = true) (hn : (lg_sl argv).length ≤ nL)
    (k : ∀ (X : Cx) (ls : Array Slot), xP X = P → xl X = l → Gd X y cc nL ret fr lo y.cls → Rt X q' s' rv → lv_has ls nL (lv_args 0 argv) → WW X q s 0 ls []) : Ct l y cc nL ret fr lo P q s argv rv q' s' := by
  refine va_MetF (cc := cc) (maxL := nL) (ret := ret) hy rfl ?_
  intro p e s0 m args below meth c s₁ B hml hv
  obtain ⟨rfl, hW, hK⟩ := hv
  have hts := atoms_spec (ws := Cond.code y cc nL ret :: wA) B.pre
  have e1 : s0.heap.size = q.2.1 := hW.1
  have e2 : tot s0.heap = q.2.2 := hW.2.1
  have hl := lv_entry argv (n := nL) hn
  rw [lg_entry_eq]
  have z := k ((p, l, e, (headSpec (Cond.code y cc nL ret :: wA) { frames := fr, cells := cC P q.2.1, slots := cS P q.2.2, locals := lo }).room, s0, m), (argv.toArray, below, meth, c), MQ below (Qe P q' s' rv) argv.toArray s0 (cC P q.2.1) (cS P q.2.2) (fun a => P.1 ≤ a), P) _ rfl rfl
    ⟨⟨B.exec, B.bytes⟩, hml, findClass_of_methodNamed B.named, hts, hK, ⟨rfl, rfl, by show cC P q.2.1 = cC P s0.heap.size; rw [e1], by show cS P q.2.2 = cS P (tot s0.heap); rw [e2]⟩, B.returns, B.notSynchronized⟩
    (by unfold Rt; show MQ _ _ _ _ _ _ _ = MQ _ _ _ _ (cC P s0.heap.size) (cS P (tot s0.heap)) _; rw [e1, e2]) hl s0.heap [] hW va_S.rf
  exact w_tight (by omega) (by omega) z
