/-! A coroutine is made. -/
section CO
variable {X : Cx} {q : PL} {s s1 : S1} {y0 y : MethodName} {cc bytes : ByteArray} {nL maxL n : Nat} {ret : Option FieldType} {fr lo fr1 lo1 : Nat} {own : String} {pc : Nat} {ls : Array Slot} {rest st0 : List Value} {α : Type} {o : α × S1} {L : List Nat} {m n1 : Nat × Nat} {t r : Nat} {i : Int32} {index : Nat} {rv : PL → Option Value} {As : List Value}
/-- a constructor that makes something -/
theorem ww_callIX (g : Gd X y0 cc nL ret fr lo own) (hv : CIi y bytes maxL n) (hm : Ml own index y) (hM : CtX (xl X) y bytes maxL none fr1 lo1 (xP X) L q s (.ref (q.1 r i) :: As) rv n1 s1)
    (hR : fr1 + 1 ≤ fr ∧ 8 + (maxL + 11) + lo1 ≤ lo) (hn : As.length = n) (hsz : ls.size = nL) (hrest : (rest.map fun v => v.category).sum ≤ 8) (hdg : decode cc pc = .ok (.invokespecial index, 3)) (hst : st0 = As.reverse ++ .ref (q.1 r i) :: rest)
    (kk : ∀ q1, Exq (xP X) L q q1 → Rmq (xP X) q1 n1 → WW X q1 s1 (pc + 3) ls ((rv q1).toList ++ rest)) : WW X q s pc ls st0 := by
  subst hst
  obtain ⟨v0, v1, v3, v4, v5⟩ := hv
  have g' := g
  obtain ⟨⟨hx, hb⟩, hml, hown, hts, hK, ⟨hR1, hR2, -, -⟩, -⟩ := g'
  refine ww_afterX g (a := (Value.ref (q.1 r i) :: As).toArray) (fun H locs cells slots hW hS hf => ?_) kk
  have hpre : PreS (xs X) H (va_Pc (.ref (q.1 r i) :: As) (Pe (xP X) q s)) (.ref (q.1 r i) :: As) := ⟨pe_blind _ _ _ _, fun U hU hWm => ⟨rfl, by rw [hU]; exact hW, Kk.at hWm (by rw [hU]; exact hS.2.1) hK⟩⟩
  have hG : GoodIn (Cond.code y0 cc nL ret :: wA) (Cond.code y bytes maxL none :: wA) := gC v4
  rcases hm with hm | ⟨host, hm⟩
  · exact va_runI (Ts := Cond.code y0 cc nL ret :: wA) ⟨hx, hb, hml, hown, hts⟩ hM ⟨callB_of n hts hG rfl rfl rfl (hts _ (List.mem_cons_of_mem _ v3)) (hts _ (List.mem_cons_of_mem _ hm)) v5 (by rw [hR1, hR2]; exact hR), v0, hts _ (List.mem_cons_of_mem _ v1)⟩ hpre rfl hn hsz rfl (lv_room hrest) hdg hf
  · exact va_runIN (Ts := Cond.code y0 cc nL ret :: wA) ⟨hx, hb, hml, hown, hts⟩ hM ⟨va_cnB n hts hG rfl rfl rfl (hK.2.2.1 _ hm) (hts _ (List.mem_cons_of_mem _ v3)) v5 (by rw [hR1, hR2]; exact hR), v0, hts _ (List.mem_cons_of_mem _ v1)⟩ hpre rfl hn hsz rfl (lv_room hrest) hdg hf
/-- an object that nothing holds yet -/
theorem ww_nwN (g : Gd X y0 cc nL ret fr lo own) {j : Int32} {CT : String} {TT : u_T} {tyT : Nat → FieldType} {i1 : Nat} (hcT : ClF t CT TT tyT) (hdv : dvOK t tyT) (h5 : ∀ k, k < nfF t → tcG (128 * t + k) = 5 → gI s (128 * tgG (128 * t + k) + 127) j ≠ 1) (ht : t ≠ 148) (hh : hoF t = [] ∧ hrF t = []) (hi : 0 ≤ j ∧ j.toNatClampNeg < cnF t) (hL : t ∈ L)
    (hw1 : Cond.classLink own i1 CT ∈ wA) (hw2 : Cond.instantiable CT (nfF t) ∈ wA) (hw3 : Cond.initialized CT ∈ wA) (hm : Rmq (xP X) q m) (hd1 : decode cc pc = .ok (.new i1, 3))
    {kt : Nat × Nat → M α} {kt2 : Nat × Nat → Unit → M α} (h : oB (oNw m (nfF t)) kt s = some o) (hkt : ∀ m', kt m' = oB (oS fun s => nwO s t j) (kt2 m')) (kk : ∀ (q' : PL) (m' : Nat × Nat) (s' : S1), s' = nwO s t j → Exq (xP X) L q q' → Rmq (xP X) q' m' → prs s' t j → kt2 m' () s' = some o → WW X q' s' (pc + 3) ls (.ref (q'.1 t j) :: rest)) : WW X q s pc ls rest := by
  intro H locs hW hS
  have g' := g
  obtain ⟨⟨hx, hb⟩, hml, hown, hts, hK, ⟨hR1, hR2, hR3, hR4⟩, -⟩ := g'
  obtain ⟨hr, h⟩ := oNw_in h
  rw [hkt] at h
  have h : kt2 _ () (nwO s t j) = some o := h
  obtain ⟨hm1, hm2⟩ := hm.tk (t := t) (i := j) hr
  have e1 := hW.1
  have e2 := hW.2.1
  refine w_grow fun g1 g2 => ?_
  refine w_tight (k := H.size - (xs X).heap.size) (n := tot H - tot (xs X).heap) (by omega) (by omega) ?_
  have hKn := hK.1.1 (ciF t) _ hcT.2.1
  refine W.newcK (n := nfF t) hx hb hown (hts _ (List.mem_cons_of_mem _ hw1)) (hts _ (List.mem_cons_of_mem _ hw2)) (hts _ (List.mem_cons_of_mem _ hw3)) rfl hd1 (by rw [hR3]; unfold cC; omega) (by rw [hR4]; unfold cS; omega) hKn.2.1 rfl fun H1 kC hkC a1 a2 a3 => ?_
  have hin : ∀ w ∈ u_ws CT TT (nfF t), w ∈ (Cond.code y0 cc nL ret :: wA) := fun w h => List.mem_cons_of_mem _ (hcT.2.2.1 w h)
  obtain ⟨cv, q1, q2, q3, q4⟩ := u_born tyT hts hin hKn hkC a1 hcT.2.2.2.1
  have hS1 : va_S (fun a => (xP X).1 ≤ a) (xs X).heap H1 locs := ⟨by omega, fun a b1 b2 => (a3 a (Nat.lt_of_lt_of_le b1 hS.1)).trans (hS.2.1 a b1 b2), hS.2.2⟩
  have htot1 : tot H1 = tot H + nfF t := by
    rw [tot_grow a2 a1 a3]
    obtain ⟨cC', kC', w1, w2, w3, w4, w5, w6⟩ := Cond.instantiable_spec (hts _ (List.mem_cons_of_mem _ hw2))
    cases hKn.2.1.symm.trans w1
    cases hkC.symm.trans w2
    show _ + (Array.map defaultValue kC.instanceTypes).size = _
    rw [Array.size_map, w6]
  have hp := prs_nwO (s := s) hi
  have hsm : Sm t j q (qU q t j (nfF t)) s (nwO s t j) := sm_nwO
  have hW1 : Wd (xP X) (qU q t j (nfF t)) (nwO s t j) H1 := by
    refine hW.mk hsm (by show H1.size = q.2.1 + 1; omega) (by show tot H1 = q.2.2 + _; rw [htot1, e2]) hm2 (fun _ _ => False) (fun r x hp hne _ => ⟨a3 _ (by rw [e1]; exact hW.fresh r x hp), nrf0 hh.1 hh.2 r x hp⟩) (fun _ _ _ _ z => z.elim) ⟨?_, by rw [qU_at]; exact hW.base, ?_, fun r x hp _ => by rw [qU_at]; exact Nat.ne_of_lt (hW.fresh r x hp)⟩ hp (kd_nw (sm_nwO (q := q) (M := 0)) ht hp hW.2.2.2.2.2.2.2.2) (fun z => by have := hcT.1; omega)
    · unfold cellAt
      rw [if_pos hcT.1, qU_at]
      refine ⟨cv, ?_, q2, q3, fun k hk => ?_⟩
      · rw [← e1]
        exact q1
      · rw [fv_nwO hdv h5 hk]
        exact q4 k hk
    · unfold lnS
      split
      · rw [gI_nwO, if_pos ⟨by omega, rfl⟩, if_neg (by omega)]
        split <;> decide
      · exact lnF_lt t
  have k2 := kk _ _ _ rfl (exU (Or.inl hL)) hm1 hp h H1 _ hW1 hS1
  rw [qU_at] at k2
  refine W.widen (k := cC (xP X) (xs X).heap.size) (n := cS (xP X) (tot (xs X).heap)) (by unfold cC; omega) (by unfold cS; omega) ?_
  show W _ _ _ _ _ _ _ _ _ _ _ _ _ _ _ (F0 _ _ _ (.ref H.size :: rest))
  rw [e1]
  exact k2
/-- the row of frames is made and put into its field -/
theorem ww_nwQ (g : Gd X y0 cc nL ret fr lo own) {n : Int32} {r0 k index i1 : Nat} {C : String} {T : u_T} {ty : Nat → FieldType} (hc : ClF r0 C T ty) (hp0 : prs s r0 i) (hk : k < nfF r0) (hfl : Fl own index C (T k).2.1 (T k).2.2.1) (hfin : (T k).2.2.2 = false ∨ ((T k).2.2.2 = true ∧ (xh X).name = "<init>" ∧ C = own ∧ Cond.fieldLink own index C (T k).2.1 (T k).2.2.1 ∈ wA)) (hty : ∃ z, ty k = .array z) (hkd : rkF t = 9 ∧ t ≠ teF t) (hfr : ∀ x, x < n.toNatClampNeg → gI s (128 * teF t + 127) (i * 200 + Int32.ofNat x) ≠ 1) (ht : t ≠ 148) (hi : i.toNatClampNeg < cnF t) (hl : lnF t = n.toNatClampNeg)
    (hf : tcG (128 * r0 + k) = 5 ∧ tgG (128 * r0 + k) = t ∧ r0 ≠ t) (hu : ∀ k', k' < nfF r0 → k' ≠ k → tgG (128 * r0 + k') ≠ t) (hR : ∀ r x, prs s r x → ¬ (r = r0 ∧ x = i) → ¬ Rfr s r x t i) (hL : t ∈ L ∨ ¬ gI s (128 * t + 127) i = 1 ∧ dyF t = true) (hw : Cond.classLink own i1 (ecF t) ∈ wA) (hw2 : Cond.arrayOver (.object (ecF t)) ∈ xW) (hm : Rmq (xP X) q m) (hdg : decode cc pc = .ok (.anewarray i1, 3)) (hdg2 : decode cc (pc + 3) = .ok (.putfield index, 3)) (hn : 0 ≤ n ∧ n ≤ 60000000)
    {kt : Nat × Nat → M α} {kt2 : Nat × Nat → Unit → M α} (h : oB (oNw m n.toNatClampNeg) kt s = some o) (hkt : ∀ m', kt m' = oB (oS fun s => nwR s t i n.toNatClampNeg) (kt2 m')) (kk : ∀ (q' : PL) (m' : Nat × Nat) (s' : S1), s' = nwR s t i n.toNatClampNeg → Exq (xP X) L q q' → Rmq (xP X) q' m' → prs s' t i → kt2 m' () s' = some o → WW X q' s' (pc + 6) ls rest) : WW X q s pc ls (.int n :: .ref (q.1 r0 i) :: rest) := by
  intro H locs hW hS
  have g' := g
  obtain ⟨⟨hx, hb⟩, hml, hown, hts, hK, ⟨hR1, hR2, hR3, hR4⟩, -⟩ := g'
  obtain ⟨hr, h⟩ := oNw_in h
  rw [hkt] at h
  have h : kt2 _ () (nwR s t i n.toNatClampNeg) = some o := h
  obtain ⟨hm1, hm2⟩ := hm.tk (t := t) (i := i) hr
  have e1 := hW.1
  have e2 := hW.2.1
  have hN : n.toNatClampNeg ≤ 60000000 := by
    have a1 := Int32.le_iff_toInt_le.mp hn.2
    have e3 : n.toNatClampNeg = n.toInt.toNat := rfl
    have e4 : (60000000 : Int32).toInt = 60000000 := rfl
    omega
  refine w_grow fun g1 g2 => ?_
  refine w_tight (k := H.size - (xs X).heap.size) (n := tot H - tot (xs X).heap) (by omega) (by omega) ?_
  refine W.anew hx hb hown (hts _ (List.mem_cons_of_mem _ hw)) (va_AO.use (show va_AO (ecF t) (xs X) from hK.2.2.1 _ hw2)) rfl hdg rfl (Int32.not_lt.mpr hn.1) (by omega) (by rw [hR3]; unfold cC; omega) (by rw [hR4]; unfold cS; omega) fun cA kA comp f1 f2 f3 f4 => ?_
  generalize hH1 : H.push ({ cls := cA, slots := Array.replicate n.toNatClampNeg .null, vm := .none } : Cell) = H1
  have a2 : H1.size = H.size + 1 := by rw [← hH1, Array.size_push]
  have a1 : H1[H.size]? = some (arrV cA n.toNatClampNeg (fun _ => .null)) := by rw [← hH1, Array.getElem?_push_size, ← arrV_new]
  have a3 : ∀ q : Nat, q < H.size → H1[q]? = H[q]? := fun q hq => by rw [← hH1, Array.getElem?_push, if_neg (Nat.ne_of_lt hq)]
  have hat : atF t = .object (ecF t) := by
    unfold atF
    rw [hkd.1]
    rfl
  have hRA := (hK.2.2.2.2 t (by omega) (by omega)).2
  rw [hat] at hRA
  obtain ⟨kA', comp', p1, p2, p3, p4⟩ := hRA
  have hcA : cA = (xP X).2.2.1 t := Option.some.inj (f1.symm.trans p4)
  subst hcA
  have z1 : (fun _ : Nat => Value.null) = (fun _ : Nat => zV t) := by
    unfold zV
    rw [hkd.1]
    rfl
  rw [z1] at a1
  obtain ⟨d1, d2, d3⟩ := hW.2.2.1 r0 i hp0
  have d4 := hW.fresh r0 i hp0
  unfold cellAt at d1
  rw [if_pos hc.1] at d1
  have d1' := d1.kept (a3 _ (by rw [e1]; exact d4))
  obtain ⟨tz, htz⟩ := hty
  have hS1 : va_S (fun a => (xP X).1 ≤ a) (xs X).heap H1 locs := ⟨by omega, fun a b1 b2 => (a3 a (Nat.lt_of_lt_of_le b1 hS.1)).trans (hS.2.1 a b1 b2), hS.2.2⟩
  refine rw_put g (ls := ls) (rest := rest) (v := .ref H.size) hc d1' hk hfl hfin (by rw [htz]; rfl) (by rw [htz]; rfl) d2 hS1 hdg2 fun H2 locs2 b1 b2 b3 b4 hS2 => ?_
  have hne0 : ¬ (r0 = t ∧ i = i) := fun z => hf.2.2 z.1
  have b5 : H2[H.size]? = H1[H.size]? := b4 _ (by rw [e1]; exact Nat.ne_of_gt d4)
  obtain ⟨c1, c2⟩ := cell_nwR (P := xP X) (q := q) (s := s) (i := i) (H1 := H2) (Or.inr (Or.inr (Or.inr ⟨hkd.1, hkd.2, hfr⟩))) (by omega) (Or.inr hl) (by rw [← e1, b5]; exact a1)
  have hpi : 0 ≤ i := hp0.2.1
  have hp := prs_nwR (s := s) (N := n.toNatClampNeg) ⟨hpi, hi⟩
  have hsm : Sm t i q (qU q t i n.toNatClampNeg) s (nwR s t i n.toNatClampNeg) := sm_nwR
  have hW1 : Wd (xP X) (qU q t i n.toNatClampNeg) (nwR s t i n.toNatClampNeg) H2 := by
    refine hW.mk hsm (by show H2.size = q.2.1 + 1; omega) (by show tot H2 = q.2.2 + _; rw [b3, tot_grow a2 a1 a3, arrV_size, e2]) hm2 (fun r x => r = r0 ∧ x = i) (fun r x hp hne ho => ⟨?_, hR r x hp ho⟩) (fun r x hpx hne ho => ?_) ⟨c1, by rw [qU_at]; exact hW.base, c2, fun r x hp _ => by rw [qU_at]; exact Nat.ne_of_lt (hW.fresh r x hp)⟩ hp (kd_nw (sm_nwR (q := q) (M := 0)) ht hp hW.2.2.2.2.2.2.2.2) byR
    · rw [b4 _ fun z => ho (hW.2.2.2.1 _ _ _ _ hp hp0 z)]
      exact a3 _ (by rw [e1]; exact hW.fresh r x hp)
    · obtain ⟨rfl, rfl⟩ := ho
      unfold cellAt
      rw [if_pos hc.1, qU_ne hne0]
      refine b1.to fun k' hk' => ?_
      by_cases e : k' = k
      · subst e
        have e5 : fv (qU q t x n.toNatClampNeg) (nwR s t x n.toNatClampNeg) r x k' = .ref H.size := by
          unfold fv
          rw [hf.1, hf.2.1]
          show (if gI (nwR s t x n.toNatClampNeg) (128 * t + 127) x = 1 then Value.ref ((qU q t x n.toNatClampNeg).1 t x) else .null) = _
          have e6 : gI (nwR s t x n.toNatClampNeg) (128 * t + 127) x = 1 := by rw [gI_nwR, if_pos ⟨rfl, rfl⟩]
          rw [if_pos e6, qU_at, e1]
        rw [e5]
        simp [updV]
      · simp only [updV, if_neg e]
        exact (hsm.fk hne0 (by have := nfF_le r; omega) (hu k' hk' e)).symm
  have hE : Exq (xP X) L q (qU q t i n.toNatClampNeg) := by
    refine exU (hL.imp id fun z hlt => ?_)
    exact z.1 ((hW.2.2.2.2.2.2.2.1 t i hpi hi hlt).1 z.2)
  have k2 := kk _ _ _ rfl hE hm1 hp h H2 locs2 hW1 hS2
  refine W.widen (k := cC (xP X) (xs X).heap.size) (n := cS (xP X) (tot (xs X).heap)) (by unfold cC; omega) (by unfold cS; omega) ?_
  exact k2
end CO
