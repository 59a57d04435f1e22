/-! Calls. -/
section CL0
variable {p : Program} {l : Launch} {e : Env} {R : Room} {s : State} {m : MethodId} {args : Array Value} {below : List Frame} {meth : Method} {c : Code} {H : Heap} {locs : List Loc} {cells slots : Nat} {Q : State → Prop}
theorem w_grow {g : JFrame} (k : s.heap.size ≤ H.size → tot s.heap ≤ tot H → W p l e R s m args below meth c H locs cells slots Q g) : W p l e R s m args below meth c H locs cells slots Q g := by
  intro T hT X
  obtain ⟨a1, a2, a3, a4, a5, a6⟩ := X.same
  have hH : (T.setVm s.vm).heap = H := hT
  rw [hH] at a2
  refine k a2 ?_ T hT X
  have e1 := tot_split H s.heap.size
  have e2 : (H.toList.take s.heap.size).map (fun c : Cell => c.slots.size) = s.heap.toList.map (fun c : Cell => c.slots.size) := tot_take fun a c hc => by
    obtain ⟨c', q1, -, q3, -⟩ := a6 a c hc
    exact ⟨c', by rw [← hH]; exact q1, q3⟩
  rw [e2] at e1
  unfold tot at e1 ⊢
  omega
end CL0
def Ml (own : String) (index : Nat) (y : MethodName) : Prop := Cond.methodLink own index y ∈ wA ∨ ∃ host : String, Cond.methodLinkNest own index y host ∈ xW
/-- what is known of a method that is called on an object -/
def CV (y : MethodName) (bytes : ByteArray) (maxL : Nat) (ret : Option FieldType) (n : Nat) : Prop := Cond.instanceMethod y ∈ wA ∧ Cond.selects y.cls y y ∈ wA ∧ Cond.initialized y.cls ∈ wA ∧ Cond.code y bytes maxL ret ∈ wA ∧
  (y.cls ≠ "java/lang/invoke/MethodHandle" ∧ y.cls ≠ "java/lang/invoke/VarHandle" ∧ (parseMethodDescriptor y.desc).map (fun d => d.parameters.length) = some n)
/-- and of one that is static -/
def CS (y : MethodName) (bytes : ByteArray) (maxL : Nat) (ret : Option FieldType) (n : Nat) : Prop := Cond.static y ∈ wA ∧ Cond.initialized y.cls ∈ wA ∧ Cond.code y bytes maxL ret ∈ wA ∧
  (y.cls ≠ "java/lang/invoke/MethodHandle" ∧ y.cls ≠ "java/lang/invoke/VarHandle" ∧ (parseMethodDescriptor y.desc).map (fun d => d.parameters.length) = some n)
theorem pe_blind (P : PP) (q : PL) (s : S1) (av : List Value) : FrameBlind (va_Pc av (Pe P q s)) := fun a U g mk h => ⟨h.1, h.2.1, Kk.at (s := U) (U := U.calling g mk a) (State.WarmedH.refl U) (fun _ _ _ => rfl) h.2.2⟩
section CL1
variable {X : Cx} {q q1 : PL} {s s1 : S1} {y0 y : MethodName} {cc bytes : ByteArray} {nL maxL : Nat} {ret0 ret : Option FieldType} {fr0 lo0 fr lo : Nat} {own : String} {pc : Nat} {ls : Array Slot} {rest st0 : List Value} {r : Nat} {i : Int32} {C : String} {T : u_T} {ty : Nat → FieldType} {n index : Nat} {rv : Option Value} {As : List Value}
theorem ww_after (g : Gd X y0 cc nL ret0 fr0 lo0 own) {a : Array Value}
    (hr : ∀ (H : Heap) (locs : List Loc) (cells slots : Nat), Wd (xP X) q s H → va_S (fun a => (xP X).1 ≤ a) (xs X).heap H locs → (cells + cC (xP X) q.2.1 ≤ (xR X).cells ∧ slots + cS (xP X) q.2.2 ≤ (xR X).slots) → va_Run (xp X) (xl X) (xe X) (xR X) (xs X) (xm X) (xa X) (xb X) (xh X) (xc X) H locs cells slots (cC (xP X) q.2.1) (cS (xP X) q.2.2) (F0 (xm X) pc ls st0) rest (Qe (xP X) q1 s1 rv a) (fun a => (xP X).1 ≤ a))
    (kk : WW X q1 s1 (pc + 3) ls (rv.toList ++ rest)) : WW X q s pc ls st0 := by
  intro H locs hW hS
  refine w_grow fun z1 z2 => ?_
  refine w_tight (k := H.size - (xs X).heap.size) (n := tot H - tot (xs X).heap) (by omega) (by omega) ?_
  have e1 := hW.1
  have e2 := hW.2.1
  obtain ⟨e3, e4, -⟩ := hW.2.2.2.2
  have hR := g.2.2.2.2.2.1
  have f1 : H.size - (xs X).heap.size + cC (xP X) q.2.1 ≤ cC (xP X) (xs X).heap.size := by unfold cC; omega
  have f2 : tot H - tot (xs X).heap + cS (xP X) q.2.2 ≤ cS (xP X) (tot (xs X).heap) := by unfold cS; omega
  have hrun := hr H locs (H.size - (xs X).heap.size) (tot H - tot (xs X).heap) hW hS (by rw [hR.2.2.1, hR.2.2.2]; exact ⟨f1, f2⟩)
  intro T hT Xs
  obtain ⟨v, st0, t, T', L, h0, X', hL, e5, e6, ⟨hv, hWd, hF⟩, st⟩ := hrun T hT Xs
  cases hv
  obtain ⟨t2, a1, b1⟩ := kk T'.heap (locs ++ L) (by rw [e5]; exact hWd)
    ⟨by rw [e5]; exact Nat.le_trans hS.1 (h0 ▸ hF.1), fun a ha hn => by rw [e5, hF.2 a (by rw [h0]; exact Nat.lt_of_lt_of_le ha hS.1) hn, h0]; exact hS.2.1 a ha hn, fun a ha => by
      rcases List.mem_append.mp ha with z | z
      · exact hS.2.2 a z
      · exact hL a z⟩ T' rfl (stand_widen X' f1 f2)
  exact ⟨t2, st t2 a1, b1⟩
theorem wA_good {w : Cond} {c : Cond} (h : w ∈ wA) : w ∈ (c :: wA) ∧ ((w.onTables && w.keeps) = true ∨ ∃ ty, w = .arrayClass ty) := ⟨List.mem_cons_of_mem _ h, (wA_ok h).2⟩
theorem ww_callV (g : Gd X y0 cc nL ret0 fr0 lo0 own) (hv : CV y bytes maxL ret n) (hm : Ml own index y) (hc : ClF r y.cls T ty) (hp : prs s r i) (hM : Ct (xl X) y bytes maxL ret fr lo (xP X) q s (.ref (q.1 r i) :: As) rv q1 s1)
    (hR : fr + 1 ≤ fr0 ∧ 8 + (maxL + 11) + lo ≤ lo0) (hn : As.length = n) (hsz : ls.size = nL) (hrest : (rest.map fun v => v.category).sum ≤ 8) (hdg : decode cc pc = .ok (.invokevirtual index, 3)) (hst : st0 = As.reverse ++ .ref (q.1 r i) :: rest)
    (kk : WW X q1 s1 (pc + 3) ls (rv.toList ++ rest)) : WW X q s pc ls st0 := by
  subst hst
  obtain ⟨v1, v2, v3, v4, v5⟩ := hv
  have g' := g
  obtain ⟨⟨hx, hb⟩, hml, hown, hts, hK, ⟨hR1, hR2, -, -⟩, -⟩ := g'
  refine ww_after g (a := (Value.ref (q.1 r i) :: As).toArray) (fun H locs cells slots hW hS hf => ?_) kk
  have hcell := (hW.2.2.1 r i hp).1
  unfold cellAt at hcell
  rw [if_pos hc.1] at hcell
  obtain ⟨cell, q1', q2, q3, q4⟩ := hcell
  obtain ⟨hSl, hfc, kC, hkC, hkind⟩ := hK.1.1 (ciF r) _ hc.2.1
  have hpre : PreV (xs X) H y.cls (q.1 r i) (va_Pc (.ref (q.1 r i) :: As) (Pe (xP X) q s)) As := ⟨pe_blind _ _ _ _, ⟨cell, q1', by rw [q3]; rfl, by rw [q2]; exact hfc⟩, fun U hU hWm => ⟨rfl, by rw [hU]; exact hW, Kk.at hWm (by rw [hU]; exact hS.2.1) hK⟩⟩
  have hG : GoodIn (Cond.code y0 cc nL ret0 :: wA) (Cond.code y bytes maxL ret :: wA) := gC v4
  rcases hm with hm | ⟨host, hm⟩
  · exact va_runV (Ts := Cond.code y0 cc nL ret0 :: wA) ⟨hx, hb, hml, hown, hts⟩ hM (cwV n hts (gV hm v1 v2 v3 v4) rfl rfl rfl ⟨rfl, v5⟩ (by rw [hR1, hR2]; exact hR)) hpre rfl hn hsz rfl (lv_room hrest) hdg hf
  · exact va_runVN (Ts := Cond.code y0 cc nL ret0 :: wA) ⟨hx, hb, hml, hown, hts⟩ hM ⟨va_cnB n hts hG rfl rfl rfl (hK.2.2.1 _ hm) (hts _ (List.mem_cons_of_mem _ v3)) v5 (by rw [hR1, hR2]; exact hR), hts _ (List.mem_cons_of_mem _ v1), hts _ (List.mem_cons_of_mem _ v2)⟩ hpre rfl hn hsz rfl (lv_room hrest) hdg hf
theorem ww_callS (g : Gd X y0 cc nL ret0 fr0 lo0 own) (hv : CS y bytes maxL ret n) (hm : Ml own index y) (hM : Ct (xl X) y bytes maxL ret fr lo (xP X) q s As rv q1 s1)
    (hR : fr + 1 ≤ fr0 ∧ 8 + (maxL + 11) + lo ≤ lo0) (hn : As.length = n) (hsz : ls.size = nL) (hrest : (rest.map fun v => v.category).sum ≤ 8) (hdg : decode cc pc = .ok (.invokestatic index, 3)) (hst : st0 = As.reverse ++ rest)
    (kk : WW X q1 s1 (pc + 3) ls (rv.toList ++ rest)) : WW X q s pc ls st0 := by
  subst hst
  obtain ⟨v1, v3, v4, v5⟩ := hv
  have g' := g
  obtain ⟨⟨hx, hb⟩, hml, hown, hts, hK, ⟨hR1, hR2, -, -⟩, -⟩ := g'
  refine ww_after g (a := As.toArray) (fun H locs cells slots hW hS hf => ?_) kk
  have hpre : PreS (xs X) H (va_Pc As (Pe (xP X) q s)) As := ⟨pe_blind _ _ _ _, fun U hU hWm => ⟨rfl, by rw [hU]; exact hW, Kk.at hWm (by rw [hU]; exact hS.2.1) hK⟩⟩
  have hG : GoodIn (Cond.code y0 cc nL ret0 :: wA) (Cond.code y bytes maxL ret :: wA) := gC v4
  rcases hm with hm | ⟨host, hm⟩
  · exact va_runS (Ts := Cond.code y0 cc nL ret0 :: wA) ⟨hx, hb, hml, hown, hts⟩ hM (va_cwS n hts (gS hm v1 v3 v4) rfl rfl rfl v5 (by rw [hR1, hR2]; exact hR)) hpre rfl hn hsz rfl (lv_room hrest) hdg hf
  · exact va_runSN (Ts := Cond.code y0 cc nL ret0 :: wA) ⟨hx, hb, hml, hown, hts⟩ hM ⟨va_cnB n hts hG rfl rfl rfl (hK.2.2.1 _ hm) (hts _ (List.mem_cons_of_mem _ v3)) v5 (by rw [hR1, hR2]; exact hR), hts _ (List.mem_cons_of_mem _ v1), trivial⟩ hpre rfl hn hsz rfl (lv_room hrest) hdg hf
/-! Numbers of the pool. -/
theorem ww_ldc (g : Gd X y0 cc nL ret0 fr0 lo0 own) {v : Int32} (hk : Cond.constant own index v ∈ wA) (hdg : decode cc pc = .ok (.ldc index, 2)) (kk : WW X q s (pc + 2) ls (.int v :: rest)) : WW X q s pc ls rest := fun H locs u1 u2 => lv_ldc g.1.1 g.1.2 g.2.2.1 (g.2.2.2.1 _ (List.mem_cons_of_mem _ hk)) hdg (kk H locs u1 u2)
theorem ww_ldcw (g : Gd X y0 cc nL ret0 fr0 lo0 own) {v : Int32} (hk : Cond.constant own index v ∈ wA) (hdg : decode cc pc = .ok (.ldc_w index, 3)) (kk : WW X q s (pc + 3) ls (.int v :: rest)) : WW X q s pc ls rest := fun H locs u1 u2 => lv_ldcw g.1.1 g.1.2 g.2.2.1 (g.2.2.2.1 _ (List.mem_cons_of_mem _ hk)) hdg (kk H locs u1 u2)
theorem ww_ldc2 (g : Gd X y0 cc nL ret0 fr0 lo0 own) {v : Int64} (hk : Cond.constantLong own index v ∈ wA) (hdg : decode cc pc = .ok (.ldc2_w index, 3)) (kk : WW X q s (pc + 3) ls (.long v :: rest)) : WW X q s pc ls rest := fun H locs u1 u2 => lv_ldc2 g.1.1 g.1.2 g.2.2.1 (g.2.2.2.1 _ (List.mem_cons_of_mem _ hk)) hdg (kk H locs u1 u2)
end CL1
