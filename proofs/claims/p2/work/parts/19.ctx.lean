/-! Methods that make something: the room left is a number of the program; where things lie is told behind. -/
/-- room for n, and beside it what is kept for others -/
def Rmq (P : PP) (q : PL) (n : Nat × Nat) : Prop := q.2.1 + n.1 + P.2.2.1 3000 ≤ P.2.2.2.1 ∧ q.2.2 + n.2 + P.2.2.1 3001 ≤ P.2.2.2.2
/-- what is there stays where it is, but for these roles -/
def Exq (P : PP) (L : List Nat) (q q' : PL) : Prop := ∀ r i, r ∉ L → q.1 r i < P.2.2.2.1 → q'.1 r i = q.1 r i
theorem Exq.rf {P : PP} {L : List Nat} {q : PL} : Exq P L q q := fun _ _ _ _ => rfl
theorem Exq.tr {P : PP} {L : List Nat} {q q1 q2 : PL} (a : Exq P L q q1) (b : Exq P L q1 q2) : Exq P L q q2 := fun r i hL h => by
  have e := a r i hL h
  rw [← e] at h
  exact (b r i hL h).trans e
theorem Exq.sub {P : PP} {L L' : List Nat} {q q' : PL} (hs : ∀ r ∈ L, r ∈ L') (h : Exq P L q q') : Exq P L' q q' := fun r i hL => h r i fun z => hL (hs r z)
def QeX (P : PP) (L : List Nat) (q : PL) (n : Nat × Nat) (s : S1) (rv : PL → Option Value) : Array Value → State → Outcome → State → Prop := fun _ st oc t => ∃ q' : PL, oc = .returned (rv q') ∧ Exq P L q q' ∧ Rmq P q' n ∧ Wd P q' s t.heap ∧ va_F (fun a => P.1 ≤ a) st t
def RtX (X : Cx) (L : List Nat) (q : PL) (n : Nat × Nat) (s : S1) (rv : PL → Option Value) : Prop := xq X = MQ (xb X) (QeX (xP X) L q n s rv) (xa X) (xs X) (cC (xP X) (xs X).heap.size) (cS (xP X) (tot (xs X).heap)) (fun a => (xP X).1 ≤ a)
def CtX (l : Launch) (y : MethodName) (cc : ByteArray) (nL : Nat) (ret : Option FieldType) (fr lo : Nat) (P : PP) (L : List Nat) (q : PL) (s : S1) (argv : List Value) (rv : PL → Option Value) (n' : Nat × Nat) (s' : S1) : Prop :=
  Met l y (Cond.code y cc nL ret :: wA) { frames := fr, cells := cC P q.2.1, slots := cS P q.2.2, locals := lo } (va_Pc argv (Pe P q s)) (QeX P L q n' s' rv) (cC P q.2.1) (cS P q.2.2) (fun a => P.1 ≤ a)
theorem ctX_of {l : Launch} {y : MethodName} {cc : ByteArray} {nL : Nat} {ret : Option FieldType} {fr lo : Nat} {P : PP} {L : List Nat} {q : PL} {s : S1} {argv : List Value} {rv : PL → Option Value} {n' : Nat × Nat} {s' : S1}
    (hy : plainName y.cls = true) (hn : (lg_sl argv).length ≤ nL)
    (k : ∀ (X : Cx) (ls : Array Slot), xP X = P → xl X = l → Gd X y cc nL ret fr lo y.cls → RtX X L q n' s' rv → lv_has ls nL (lv_args 0 argv) → WW X q s 0 ls []) : CtX l y cc nL ret fr lo P L q s argv rv n' s' := by
  refine Met.ofW (cc := cc) (maxL := nL) (ret := ret) hy rfl ?_
  intro p e s0 m args below meth c s₁ B hml hv
  obtain ⟨rfl, hW, hK⟩ := hv
  have hts := atoms_spec (ws := Cond.code y cc nL ret :: wA) B.pre
  have e1 : s0.heap.size = q.2.1 := hW.1
  have e2 : tot s0.heap = q.2.2 := hW.2.1
  have hl := lv_entry argv (n := nL) hn
  rw [lg_entry_eq]
  have z := k ((p, l, e, (headSpec (Cond.code y cc nL ret :: wA) { frames := fr, cells := cC P q.2.1, slots := cS P q.2.2, locals := lo }).room, s0, m), (argv.toArray, below, meth, c), MQ below (QeX P L q n' s' rv) argv.toArray s0 (cC P q.2.1) (cS P q.2.2) (fun a => P.1 ≤ a), P) _ rfl rfl
    ⟨⟨B.exec, B.bytes⟩, hml, findClass_of_methodNamed B.named, hts, hK, ⟨rfl, rfl, by show cC P q.2.1 = cC P s0.heap.size; rw [e1], by show cS P q.2.2 = cS P (tot s0.heap); rw [e2]⟩, B.returns, B.notSynchronized⟩
    (by unfold RtX; show MQ _ _ _ _ _ _ _ = MQ _ _ _ _ (cC P s0.heap.size) (cS P (tot s0.heap)) _; rw [e1, e2]) hl s0.heap [] hW va_S.rf
  exact w_tight (by omega) (by omega) z
theorem ctX_ofF {l : Launch} {y : MethodName} {cc : ByteArray} {nL : Nat} {ret : Option FieldType} {fr lo : Nat} {P : PP} {L : List Nat} {q : PL} {s : S1} {argv : List Value} {rv : PL → Option Value} {n' : Nat × Nat} {s' : S1}
    (hy : plainFor y = true) (hn : (lg_sl argv).length ≤ nL)
    (k : ∀ (X : Cx) (ls : Array Slot), xP X = P → xl X = l → Gd X y cc nL ret fr lo y.cls → RtX X L q n' s' rv → lv_has ls nL (lv_args 0 argv) → WW X q s 0 ls []) : CtX l y cc nL ret fr lo P L q s argv rv n' s' := by
  refine va_MetF (cc := cc) (maxL := nL) (ret := ret) hy rfl ?_
  intro p e s0 m args below meth c s₁ B hml hv
  obtain ⟨rfl, hW, hK⟩ := hv
  have hts := atoms_spec (ws := Cond.code y cc nL ret :: wA) B.pre
  have e1 : s0.heap.size = q.2.1 := hW.1
  have e2 : tot s0.heap = q.2.2 := hW.2.1
  have hl := lv_entry argv (n := nL) hn
  rw [lg_entry_eq]
  have z := k ((p, l, e, (headSpec (Cond.code y cc nL ret :: wA) { frames := fr, cells := cC P q.2.1, slots := cS P q.2.2, locals := lo }).room, s0, m), (argv.toArray, below, meth, c), MQ below (QeX P L q n' s' rv) argv.toArray s0 (cC P q.2.1) (cS P q.2.2) (fun a => P.1 ≤ a), P) _ rfl rfl
    ⟨⟨B.exec, B.bytes⟩, hml, findClass_of_methodNamed B.named, hts, hK, ⟨rfl, rfl, by show cC P q.2.1 = cC P s0.heap.size; rw [e1], by show cS P q.2.2 = cS P (tot s0.heap); rw [e2]⟩, B.returns, B.notSynchronized⟩
    (by unfold RtX; show MQ _ _ _ _ _ _ _ = MQ _ _ _ _ (cC P s0.heap.size) (cS P (tot s0.heap)) _; rw [e1, e2]) hl s0.heap [] hW va_S.rf
  exact w_tight (by omega) (by omega) z
section CX
variable {X : Cx} {q : PL} {s s1 : S1} {y0 y : MethodName} {cc bytes : ByteArray} {nL maxL : Nat} {ret0 ret : Option FieldType} {fr0 lo0 fr lo : Nat} {own : String} {pc : Nat} {ls : Array Slot} {rest st0 : List Value} {r : Nat} {i : Int32} {C : String} {T : u_T} {ty : Nat → FieldType} {n index : Nat} {L : List Nat} {n1 : Nat × Nat} {rv : PL → Option Value} {As : List Value}
/-- what is there lies below the cap; and the other way round -/
theorem ww_lo {st : List Value} (kk : (∀ r i, prs s r i → q.1 r i < (xP X).2.2.2.1) → WW X q s pc ls st) : WW X q s pc ls st := by
  intro H locs hW hS
  refine kk (fun r i hp => ?_) H locs hW hS
  have := cellAt_lt (hW.2.2.1 r i hp).1
  have h5 := hW.2.2.2.2.1
  rw [hW.1] at this
  omega
theorem ww_hi {st : List Value} (kk : (∀ r i, 0 ≤ i → i.toNatClampNeg < cnF r → q.1 r i < (xP X).2.2.2.1 → prs s r i) → WW X q s pc ls st) : WW X q s pc ls st := fun H locs hW hS => kk hW.2.2.2.2.2.2.2.1 H locs hW hS
theorem ww_kd {st : List Value} (kk : Kd s → WW X q s pc ls st) : WW X q s pc ls st := fun H locs hW hS => kk hW.2.2.2.2.2.2.2.2 H locs hW hS
theorem ww_afterX (g : Gd X y0 cc nL ret0 fr0 lo0 own) {a : Array Value}
    (hr : ∀ (H : Heap) (locs : List Loc) (cells slots : Nat), Wd (xP X) q s H → va_S (fun a => (xP X).1 ≤ a) (xs X).heap H locs → (cells + cC (xP X) q.2.1 ≤ (xR X).cells ∧ slots + cS (xP X) q.2.2 ≤ (xR X).slots) → va_Run (xp X) (xl X) (xe X) (xR X) (xs X) (xm X) (xa X) (xb X) (xh X) (xc X) H locs cells slots (cC (xP X) q.2.1) (cS (xP X) q.2.2) (F0 (xm X) pc ls st0) rest (QeX (xP X) L q n1 s1 rv a) (fun a => (xP X).1 ≤ a))
    (kk : ∀ q1, Exq (xP X) L q q1 → Rmq (xP X) q1 n1 → WW X q1 s1 (pc + 3) ls ((rv q1).toList ++ rest)) : WW X q s pc ls st0 := by
  intro H locs hW hS
  refine w_grow fun z1 z2 => ?_
  refine w_tight (k := H.size - (xs X).heap.size) (n := tot H - tot (xs X).heap) (by omega) (by omega) ?_
  have e1 := hW.1
  have e2 := hW.2.1
  obtain ⟨e3, e4, -⟩ := hW.2.2.2.2
  have hR := g.2.2.2.2.2.1
  have f1 : H.size - (xs X).heap.size + cC (xP X) q.2.1 ≤ cC (xP X) (xs X).heap.size := by unfold cC; omega
  have f2 : tot H - tot (xs X).heap + cS (xP X) q.2.2 ≤ cS (xP X) (tot (xs X).heap) := by unfold cS; omega
  have hrun := hr H locs (H.size - (xs X).heap.size) (tot H - tot (xs X).heap) hW hS (by rw [hR.2.2.1, hR.2.2.2]; exact ⟨f1, f2⟩)
  intro T hT Xs
  obtain ⟨v, st0, t, T', L', h0, X', hL, e5, e6, ⟨q1, hv, hx1, hn1, hWd, hF⟩, st⟩ := hrun T hT Xs
  cases hv
  obtain ⟨t2, a1, b1⟩ := kk q1 hx1 hn1 T'.heap (locs ++ L') (by rw [e5]; exact hWd)
    ⟨by rw [e5]; exact Nat.le_trans hS.1 (h0 ▸ hF.1), fun a ha hn => by rw [e5, hF.2 a (by rw [h0]; exact Nat.lt_of_lt_of_le ha hS.1) hn, h0]; exact hS.2.1 a ha hn, fun a ha => by
      rcases List.mem_append.mp ha with z | z
      · exact hS.2.2 a z
      · exact hL a z⟩ T' rfl (stand_widen X' f1 f2)
  exact ⟨t2, st t2 a1, b1⟩
theorem ww_callVX (g : Gd X y0 cc nL ret0 fr0 lo0 own) (hv : CV y bytes maxL ret n) (hm : Ml own index y) (hc : ClF r y.cls T ty) (hp : prs s r i) (hM : CtX (xl X) y bytes maxL ret fr lo (xP X) L q s (.ref (q.1 r i) :: As) rv n1 s1)
    (hR : fr + 1 ≤ fr0 ∧ 8 + (maxL + 11) + lo ≤ lo0) (hn : As.length = n) (hsz : ls.size = nL) (hrest : (rest.map fun v => v.category).sum ≤ 8) (hdg : decode cc pc = .ok (.invokevirtual index, 3)) (hst : st0 = As.reverse ++ .ref (q.1 r i) :: rest)
    (kk : ∀ q1, Exq (xP X) L q q1 → Rmq (xP X) q1 n1 → WW X q1 s1 (pc + 3) ls ((rv q1).toList ++ rest)) : WW X q s pc ls st0 := by
  subst hst
  obtain ⟨v1, v2, v3, v4, v5⟩ := hv
  have g' := g
  obtain ⟨⟨hx, hb⟩, hml, hown, hts, hK, ⟨hR1, hR2, -, -⟩, -⟩ := g'
  refine ww_afterX g (a := (Value.ref (q.1 r i) :: As).toArray) (fun H locs cells slots hW hS hf => ?_) kk
  have hcell := (hW.2.2.1 r i hp).1
  unfold cellAt at hcell
  rw [if_pos hc.1] at hcell
  obtain ⟨cell, q1', q2, q3, q4⟩ := hcell
  obtain ⟨hSl, hfc, kC, hkC, hkind⟩ := hK.1.1 (ciF r) _ hc.2.1
  have hpre : PreV (xs X) H y.cls (q.1 r i) (va_Pc (.ref (q.1 r i) :: As) (Pe (xP X) q s)) As := ⟨pe_blind _ _ _ _, ⟨cell, q1', by rw [q3]; rfl, by rw [q2]; exact hfc⟩, fun U hU hWm => ⟨rfl, by rw [hU]; exact hW, Kk.at hWm (by rw [hU]; exact hS.2.1) hK⟩⟩
  have hG : GoodIn (Cond.code y0 cc nL ret0 :: wA) (Cond.code y bytes maxL ret :: wA) := gC v4
  rcases hm with hm | ⟨host, hm⟩
  · exact va_runV (Ts := Cond.code y0 cc nL ret0 :: wA) ⟨hx, hb, hml, hown, hts⟩ hM (cwV n hts (gV hm v1 v2 v3 v4) rfl rfl rfl ⟨rfl, v5⟩ (by rw [hR1, hR2]; exact hR)) hpre rfl hn hsz rfl (lv_room hrest) hdg hf
  · exact va_runVN (Ts := Cond.code y0 cc nL ret0 :: wA) ⟨hx, hb, hml, hown, hts⟩ hM ⟨va_cnB n hts hG rfl rfl rfl (hK.2.2.1 _ hm) (hts _ (List.mem_cons_of_mem _ v3)) v5 (by rw [hR1, hR2]; exact hR), hts _ (List.mem_cons_of_mem _ v1), hts _ (List.mem_cons_of_mem _ v2)⟩ hpre rfl hn hsz rfl (lv_room hrest) hdg hf
theorem ww_callSX (g : Gd X y0 cc nL ret0 fr0 lo0 own) (hv : CS y bytes maxL ret n) (hm : Ml own index y) (hM : CtX (xl X) y bytes maxL ret fr lo (xP X) L q s As rv n1 s1)
    (hR : fr + 1 ≤ fr0 ∧ 8 + (maxL + 11) + lo ≤ lo0) (hn : As.length = n) (hsz : ls.size = nL) (hrest : (rest.map fun v => v.category).sum ≤ 8) (hdg : decode cc pc = .ok (.invokestatic index, 3)) (hst : st0 = As.reverse ++ rest)
    (kk : ∀ q1, Exq (xP X) L q q1 → Rmq (xP X) q1 n1 → WW X q1 s1 (pc + 3) ls ((rv q1).toList ++ rest)) : WW X q s pc ls st0 := by
  subst hst
  obtain ⟨v1, v3, v4, v5⟩ := hv
  have g' := g
  obtain ⟨⟨hx, hb⟩, hml, hown, hts, hK, ⟨hR1, hR2, -, -⟩, -⟩ := g'
  refine ww_afterX g (a := As.toArray) (fun H locs cells slots hW hS hf => ?_) kk
  have hpre : PreS (xs X) H (va_Pc As (Pe (xP X) q s)) As := ⟨pe_blind _ _ _ _, fun U hU hWm => ⟨rfl, by rw [hU]; exact hW, Kk.at hWm (by rw [hU]; exact hS.2.1) hK⟩⟩
  have hG : GoodIn (Cond.code y0 cc nL ret0 :: wA) (Cond.code y bytes maxL ret :: wA) := gC v4
  rcases hm with hm | ⟨host, hm⟩
  · exact va_runS (Ts := Cond.code y0 cc nL ret0 :: wA) ⟨hx, hb, hml, hown, hts⟩ hM (va_cwS n hts (gS hm v1 v3 v4) rfl rfl rfl v5 (by rw [hR1, hR2]; exact hR)) hpre rfl hn hsz rfl (lv_room hrest) hdg hf
  · exact va_runSN (Ts := Cond.code y0 cc nL ret0 :: wA) ⟨hx, hb, hml, hown, hts⟩ hM ⟨va_cnB n hts hG rfl rfl rfl (hK.2.2.1 _ hm) (hts _ (List.mem_cons_of_mem _ v3)) v5 (by rw [hR1, hR2]; exact hR), hts _ (List.mem_cons_of_mem _ v1), trivial⟩ hpre rfl hn hsz rfl (lv_room hrest) hdg hf
variable {q0 : PL} {m : Nat × Nat}
theorem ww_iretX (g : Gd X y cc nL (some .int) fr lo own) {v : Int32} {o : (Int32 × (Nat × Nat)) × S1} (h : oR (v, m) s = some o) (hR : RtX X L q0 o.1.2 o.2 (fun _ => some (.int o.1.1))) (hx0 : Exq (xP X) L q0 q) (hm : Rmq (xP X) q m) (hdg : decode cc pc = .ok (.ireturn, 1)) : WW X q s pc ls [.int v] := by
  rw [oR_eq h] at hR
  intro H locs hW hS
  obtain ⟨⟨hx, hb⟩, -, hown, hts, hK, -, hr, hlk⟩ := g
  rw [hR]
  exact W.iret hx hb hr (fun t ht _ => ⟨q, rfl, hx0, hm, by rw [ht]; exact hW, hS.F ht⟩) hS.2.2 hdg hlk
theorem ww_zretX (g : Gd X y cc nL (some .boolean) fr lo own) {v : Int32} {o : (Int32 × (Nat × Nat)) × S1} (h : oR (v, m) s = some o) (hR : RtX X L q0 o.1.2 o.2 (fun _ => some (.int o.1.1))) (hx0 : Exq (xP X) L q0 q) (hm : Rmq (xP X) q m) (hn : v = 0 ∨ v = 1) (hdg : decode cc pc = .ok (.ireturn, 1)) : WW X q s pc ls [.int v] := by
  rw [oR_eq h] at hR
  intro H locs hW hS
  obtain ⟨⟨hx, hb⟩, -, hown, hts, hK, -, hr, hlk⟩ := g
  rw [hR]
  exact W.zret hx hb hr (nz hn) (fun t ht _ => ⟨q, rfl, hx0, hm, by rw [ht]; exact hW, hS.F ht⟩) hS.2.2 hdg hlk
theorem ww_lretX (g : Gd X y cc nL (some .long) fr lo own) {v : Int64} {o : (Int64 × (Nat × Nat)) × S1} (h : oR (v, m) s = some o) (hR : RtX X L q0 o.1.2 o.2 (fun _ => some (.long o.1.1))) (hx0 : Exq (xP X) L q0 q) (hm : Rmq (xP X) q m) (hdg : decode cc pc = .ok (.lreturn, 1)) : WW X q s pc ls [.long v] := by
  rw [oR_eq h] at hR
  intro H locs hW hS
  obtain ⟨⟨hx, hb⟩, -, hown, hts, hK, -, hr, hlk⟩ := g
  rw [hR]
  exact W.lret hx hb hr (fun t ht _ => ⟨q, rfl, hx0, hm, by rw [ht]; exact hW, hS.F ht⟩) hS.2.2 hdg hlk
theorem ww_vretX (g : Gd X y cc nL none fr lo own) {o : (Unit × (Nat × Nat)) × S1} (h : oR ((), m) s = some o) (hR : RtX X L q0 o.1.2 o.2 (fun _ => none)) (hx0 : Exq (xP X) L q0 q) (hm : Rmq (xP X) q m) (hdg : decode cc pc = .ok (.return_, 1)) : WW X q s pc ls [] := by
  rw [oR_eq h] at hR
  intro H locs hW hS
  obtain ⟨⟨hx, hb⟩, -, hown, hts, hK, -, hr, hlk⟩ := g
  rw [hR]
  exact W.vret hx hb hr (fun t ht _ => ⟨q, rfl, hx0, hm, by rw [ht]; exact hW, hS.F ht⟩) hS.2.2 hdg hlk
end CX
/-! The program's side: room is taken; something that must hold of the state. -/
def oNw (n : Nat × Nat) (k : Nat) : M (Nat × Nat) := fun s => if 1 ≤ n.1 ∧ k ≤ n.2 then some ((n.1 - 1, n.2 - k), s) else none
noncomputable def oKs (c : S1 → Prop) : M Unit := fun s => @ite _ (c s) (Classical.propDecidable _) (some ((), s)) none
def oS (f : S1 → S1) : M Unit := fun s => some ((), f s)
theorem oNw_in {α : Type} {s : S1} {o : α × S1} {n : Nat × Nat} {k : Nat} {kt : Nat × Nat → M α} (h : oB (oNw n k) kt s = some o) : (1 ≤ n.1 ∧ k ≤ n.2) ∧ kt (n.1 - 1, n.2 - k) s = some o := by
  unfold oB oNw at h
  by_cases hj : 1 ≤ n.1 ∧ k ≤ n.2
  · rw [if_pos hj] at h
    exact ⟨hj, h⟩
  · rw [if_neg hj] at h
    cases h
theorem oKs_in {α : Type} {s : S1} {o : α × S1} {c : S1 → Prop} {kt : Unit → M α} (h : oB (oKs c) kt s = some o) : c s ∧ kt () s = some o := by
  unfold oB oKs at h
  by_cases hj : c s
  · rw [if_pos hj] at h
    exact ⟨hj, h⟩
  · rw [if_neg hj] at h
    cases h
theorem ww_ks {X : Cx} {q : PL} {s : S1} {pc : Nat} {ls : Array Slot} {st : List Value} {α : Type} {o : α × S1} {c : S1 → Prop} {kt : Unit → M α} (h : oB (oKs c) kt s = some o) (kk : c s → kt () s = some o → WW X q s pc ls st) : WW X q s pc ls st := kk (oKs_in h).1 (oKs_in h).2
