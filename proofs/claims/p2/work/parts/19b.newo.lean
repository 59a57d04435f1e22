/-! Objects that are made: new, its constructor that does nothing, its place in a row. -/
def CIi (y : MethodName) (bytes : ByteArray) (maxL n : Nat) : Prop := y.name = "<init>" ∧ Cond.instanceMethod y ∈ wA ∧ Cond.initialized y.cls ∈ wA ∧ Cond.code y bytes maxL none ∈ wA ∧
  (y.cls ≠ "java/lang/invoke/MethodHandle" ∧ y.cls ≠ "java/lang/invoke/VarHandle" ∧ (parseMethodDescriptor y.desc).map (fun d => d.parameters.length) = some n)
def Ct0 (l : Launch) (y : MethodName) (bytes : ByteArray) : Prop := ∀ (H : Heap) (a : Nat) (free : Addr → Prop), Met l y (Cond.code y bytes 1 none :: wA) { frames := 1, cells := 0, slots := 0, locals := 12 } (va_Pc [.ref a] (fun U => U.heap = H)) (fun _ _ oc t => oc = .returned none ∧ t.heap = H) 0 0 free
theorem ct0_of {l : Launch} {y : MethodName} {bytes : ByteArray} (hy : plainName y.cls = true) (hd0 : decode bytes 0 = .ok (.aload_n 0, 1)) (hd1 : decode bytes 1 = .ok (.invokespecial 3, 3)) (hd4 : decode bytes 4 = .ok (.return_, 1)) (hw : Cond.methodLink y.cls 3 objectInit ∈ wA) (hw1 : Cond.instanceMethod objectInit ∈ wA) (hw2 : Cond.code objectInit ⟨#[0xb1]⟩ 1 none ∈ wA) : Ct0 l y bytes := by
  intro H a free
  refine Met.ofW (cc := bytes) (maxL := 1) (ret := none) hy rfl ?_
  intro p e s m args below meth c s₁ B hml hv
  obtain ⟨rfl, hH⟩ := hv
  have hx := B.exec
  have hb := B.bytes
  have hr := B.returns
  have hts := atoms_spec (ws := Cond.code y bytes 1 none :: wA) B.pre
  have hown : s.vm.findClass y.cls = some m.cls := findClass_of_methodNamed B.named
  have hlocks := B.notSynchronized
  have hl := lv_entry ([.ref a]) (n := 1) (Nat.le_of_ble_eq_true rfl)
  rw [lg_entry_eq]
  generalize (lg_sl ([.ref a]) ++ List.replicate (1 - (lg_sl ([.ref a])).length) Slot.unset).toArray = ls at hl ⊢
  have hl : lv_has ls 1 [(0, .ref a)] := hl
  refine lv_aload_n hx hb hd0 rfl (lv_at hl 0 rfl) ?_
  refine W.objInit hx hb hown (hts _ (List.mem_cons_of_mem _ hw)) (hts _ (List.mem_cons_of_mem _ hw1)) (hts _ (List.mem_cons_of_mem _ hw2)) rfl (by rw [hml]; exact hl.1) rfl hd1 (Nat.le_of_ble_eq_true rfl) (Nat.le_of_ble_eq_true rfl) ?_
  exact W.vret hx hb hr (fun t ht hW => ⟨rfl, by rw [ht]; exact hH⟩) (fun a ha => by cases ha) hd4
theorem lnF_lt (r : Nat) : lnF r < 2147483648 := by
  unfold lnF
  split <;> decide
section NO
variable {X : Cx} {q : PL} {s : S1} {y0 y : MethodName} {cc bytes : ByteArray} {nL maxL n : Nat} {ret : Option FieldType} {fr lo : Nat} {own : String} {pc : Nat} {ls : Array Slot} {rest : List Value} {α : Type} {o : α × S1} {L : List Nat} {m : Nat × Nat} {t : Nat} {index : Nat}
theorem rw_ini0 (g : Gd X y0 cc nL ret fr lo own) (hv : CIi y bytes 1 0) (hm : Ml own index y) (hM : Ct0 (xl X) y bytes) (hR : 2 ≤ fr ∧ 32 ≤ lo) (hsz : ls.size = nL) (hrest : (rest.map fun v => v.category).sum ≤ 8) (hdg : decode cc pc = .ok (.invokespecial index, 3)) {a : Nat} {H : Heap} {locs : List Loc} {cells slots : Nat} (hf : cells ≤ (xR X).cells ∧ slots ≤ (xR X).slots) (hS : va_S (fun a => (xP X).1 ≤ a) (xs X).heap H locs)
    (kk : ∀ locs', va_S (fun a => (xP X).1 ≤ a) (xs X).heap H locs' → W (xp X) (xl X) (xe X) (xR X) (xs X) (xm X) (xa X) (xb X) (xh X) (xc X) H locs' cells slots (xq X) (F0 (xm X) (pc + 3) ls rest)) : W (xp X) (xl X) (xe X) (xR X) (xs X) (xm X) (xa X) (xb X) (xh X) (xc X) H locs cells slots (xq X) (F0 (xm X) pc ls (.ref a :: rest)) := by
  obtain ⟨v0, v1, v3, v4, v5⟩ := hv
  obtain ⟨⟨hx, hb⟩, hml, hown, hts, hK, ⟨hR1, hR2, -, -⟩, -⟩ := g
  have hM' := hM H a (fun a => (xP X).1 ≤ a)
  have hpre : PreS (xs X) H (va_Pc [.ref a] (fun U => U.heap = H)) (.ref a :: []) := ⟨fun _ U g mk h => ⟨h.1, h.2⟩, fun U hU hWm => ⟨rfl, hU⟩⟩
  have hG : GoodIn (Cond.code y0 cc nL ret :: wA) (Cond.code y bytes 1 none :: wA) := gC v4
  have hrun : va_Run (xp X) (xl X) (xe X) (xR X) (xs X) (xm X) (xa X) (xb X) (xh X) (xc X) H locs cells slots 0 0 (F0 (xm X) pc ls (.ref a :: rest)) rest (fun _ oc t => oc = .returned none ∧ t.heap = H) (fun a => (xP X).1 ≤ a) := by
    rcases hm with hm | ⟨host, hm⟩
    · exact va_runI (Ts := Cond.code y0 cc nL ret :: wA) ⟨hx, hb, hml, hown, hts⟩ hM' ⟨callB_of 0 hts hG rfl rfl rfl (hts _ (List.mem_cons_of_mem _ v3)) (hts _ (List.mem_cons_of_mem _ hm)) v5 (by rw [hR1, hR2]; exact hR), v0, hts _ (List.mem_cons_of_mem _ v1)⟩ hpre rfl rfl hsz rfl (lv_room hrest) hdg hf
    · exact va_runIN (Ts := Cond.code y0 cc nL ret :: wA) ⟨hx, hb, hml, hown, hts⟩ hM' ⟨va_cnB 0 hts hG rfl rfl rfl (hK.2.2.1 _ hm) (hts _ (List.mem_cons_of_mem _ v3)) v5 (by rw [hR1, hR2]; exact hR), v0, hts _ (List.mem_cons_of_mem _ v1)⟩ hpre rfl rfl hsz rfl (lv_room hrest) hdg hf
  intro T hT Xs
  obtain ⟨v, st0, t', T', L', h0, X', hL, e5, e6, ⟨hv, hH⟩, st⟩ := hrun T hT Xs
  cases hv
  obtain ⟨t2, a1, b1⟩ := kk (locs ++ L') ⟨hS.1, hS.2.1, fun b hb' => by
      rcases List.mem_append.mp hb' with z | z
      · exact hS.2.2 b z
      · exact hL b z⟩ T' (by rw [e5]; exact hH) X'
  exact ⟨t2, st t2 a1, b1⟩
/-- how a role's fields begin -/
def dvOK (t : Nat) (ty : Nat → FieldType) : Prop := ∀ k, k < nfF t → (tcG (128 * t + k) = 0 ∧ defaultValue (ty k) = .int 0) ∨ (tcG (128 * t + k) = 1 ∧ defaultValue (ty k) = .long 0) ∨ (tcG (128 * t + k) = 4 ∧ defaultValue (ty k) = .null) ∨ (tcG (128 * t + k) = 5 ∧ defaultValue (ty k) = .null ∧ tgG (128 * t + k) ≠ t)
theorem fv_nwO {q' : PL} {j : Int32} {ty : Nat → FieldType} {k : Nat} (hd : dvOK t ty) (h5 : ∀ k, k < nfF t → tcG (128 * t + k) = 5 → gI s (128 * tgG (128 * t + k) + 127) j ≠ 1) (hk : k < nfF t) : fv q' (nwO s t j) t j k = defaultValue (ty k) := by
  have hk1 : k < 126 := by have := nfF_le t; omega
  have e1 : (128 * t + k) / 128 = t := by omega
  have e2 : (128 * t + k) % 128 = k := by omega
  unfold fv
  rcases hd k hk with ⟨h, e⟩ | ⟨h, e⟩ | ⟨h, e⟩ | ⟨h, e, hne⟩
  · rw [h, e]
    show Value.int (gI (nwO s t j) _ j) = _
    rw [gI_nwO, if_pos ⟨e1, rfl⟩, e2, if_neg (by omega), if_neg (by rw [h]; decide)]
  · rw [h, e]
    show Value.long (gL (nwO s t j) _ j) = _
    rw [gL_nwO, if_pos ⟨e1, rfl⟩]
  · rw [h, e]
    show vr _ _ (gI (nwO s t j) _ j) = _
    rw [gI_nwO, if_pos ⟨e1, rfl⟩, e2, if_neg (by omega), if_pos h]
    exact vr_m1
  · rw [h, e]
    show (if gI (nwO s t j) _ j = 1 then _ else _) = _
    have e6 : gI (nwO s t j) (128 * tgG (128 * t + k) + 127) j = gI s (128 * tgG (128 * t + k) + 127) j := by
      rw [gI_nwO, if_neg fun z => hne (by have := z.1; omega)]
    rw [e6, if_neg (h5 k hk h)]
theorem ww_nwO (g : Gd X y0 cc nL ret fr lo own) {ra : Nat} {ia j jj : Int32} {CT : String} {TT : u_T} {tyT : Nat → FieldType} {i1 i2 N : Nat} (hp0 : prs s ra ia) (hka : (rkF ra = 8 ∧ jj = j) ∨ (rkF ra = 9 ∧ jj = ia * 200 + j)) (hte : teF ra = t) (hec : ecF ra = CT) (hln : lnF ra = N) (hN0 : N ≠ 0) (hj : 0 ≤ j ∧ j.toNatClampNeg < N) (hcT : ClF t CT TT tyT) (hdv : dvOK t tyT) (h5 : ∀ k, k < nfF t → tcG (128 * t + k) = 5 → gI s (128 * tgG (128 * t + k) + 127) jj ≠ 1) (ht : t ≠ 148 ∧ ra ≠ t) (hi : 0 ≤ jj ∧ jj.toNatClampNeg < cnF t)
    (hR : ∀ r x, prs s r x → ¬ (r = ra ∧ x = ia) → ¬ Rfr s r x t jj) (hL : ¬ gI s (128 * t + 127) jj = 1 ∧ dyF t = true)
    (hw1 : Cond.classLink own i1 CT ∈ wA) (hw2 : Cond.instantiable CT (nfF t) ∈ wA) (hw3 : Cond.initialized CT ∈ wA) (hv : CIi y bytes 1 0) (hml2 : Ml own i2 y) (hM : Ct0 (xl X) y bytes) (hfr : 2 ≤ fr ∧ 32 ≤ lo) (hsz : ls.size = nL) (hrest : (rest.map fun v => v.category).sum ≤ 5) (hm : Rmq (xP X) q m)
    (hd1 : decode cc pc = .ok (.new i1, 3)) (hd2 : decode cc (pc + 3) = .ok (.dup, 1)) (hd3 : decode cc (pc + 4) = .ok (.invokespecial i2, 3)) (hd4 : decode cc (pc + 7) = .ok (.aastore, 1))
    {kt : Nat × Nat → M α} {kt2 : Nat × Nat → Unit → M α} (h : oB (oNw m (nfF t)) kt s = some o) (hkt : ∀ m', kt m' = oB (oS fun s => nwO s t jj) (kt2 m')) (kk : ∀ (q' : PL) (m' : Nat × Nat) (s' : S1), s' = nwO s t jj → Exq (xP X) L q q' → Rmq (xP X) q' m' → prs s' t jj → kt2 m' () s' = some o → WW X q' s' (pc + 8) ls rest) : WW X q s pc ls (.int j :: .ref (q.1 ra ia) :: rest) := by
  intro H locs hW hS
  have g' := g
  obtain ⟨⟨hx, hb⟩, hml, hown, hts, hK, ⟨hR1, hR2, hR3, hR4⟩, -⟩ := g'
  obtain ⟨hr, h⟩ := oNw_in h
  rw [hkt] at h
  have h : kt2 _ () (nwO s t jj) = some o := h
  obtain ⟨hm1, hm2⟩ := hm.tk (t := t) (i := jj) hr
  have e1 := hW.1
  have e2 := hW.2.1
  refine w_grow fun g1 g2 => ?_
  refine w_tight (k := H.size - (xs X).heap.size) (n := tot H - tot (xs X).heap) (by omega) (by omega) ?_
  have hKn := hK.1.1 (ciF t) _ hcT.2.1
  refine W.newcK (n := nfF t) hx hb hown (hts _ (List.mem_cons_of_mem _ hw1)) (hts _ (List.mem_cons_of_mem _ hw2)) (hts _ (List.mem_cons_of_mem _ hw3)) rfl hd1 (by rw [hR3]; unfold cC; omega) (by rw [hR4]; unfold cS; omega) hKn.2.1 rfl fun H1 kC hkC a1 a2 a3 => ?_
  have hin : ∀ w ∈ u_ws CT TT (nfF t), w ∈ (Cond.code y0 cc nL ret :: wA) := fun w h => List.mem_cons_of_mem _ (hcT.2.2.1 w h)
  have born := u_born tyT hts hin hKn hkC a1 hcT.2.2.2.1
  have hS1 : va_S (fun a => (xP X).1 ≤ a) (xs X).heap H1 locs := ⟨by omega, fun a b1 b2 => (a3 a (Nat.lt_of_lt_of_le b1 hS.1)).trans (hS.2.1 a b1 b2), hS.2.2⟩
  have htot1 : tot H1 = tot H + nfF t := by
    rw [tot_grow a2 a1 a3]
    obtain ⟨cC', kC', w1, w2, w3, w4, w5, w6⟩ := Cond.instantiable_spec (hts _ (List.mem_cons_of_mem _ hw2))
    cases hKn.2.1.symm.trans w1
    cases hkC.symm.trans w2
    show _ + (Array.map defaultValue kC.instanceTypes).size = _
    rw [Array.size_map, w6]
  refine lv_dup hx hb hd2 rfl ?_
  refine rw_ini0 g (index := i2) (rest := .ref H.size :: .int j :: .ref (q.1 ra ia) :: rest) hv hml2 hM hfr hsz (by simp only [List.map_cons, List.sum_cons]; show 1 + (1 + (1 + _)) ≤ 8; omega) hd3 ⟨by rw [hR3]; unfold cC; omega, by rw [hR4]; unfold cS; omega⟩ hS1 fun locs1 hS1 => ?_
  obtain ⟨d1, d2, d3⟩ := hW.2.2.1 ra ia hp0
  have d4 := hW.fresh ra ia hp0
  have hka' : rkF ra = 8 ∨ rkF ra = 9 := hka.imp (fun z => z.1) fun z => z.1
  unfold cellAt at d1
  rw [if_neg (by omega), avP_ne (by omega)] at d1
  have d1' : H1[q.1 ra ia]? = _ := (a3 _ (by rw [e1]; exact d4)).trans d1
  have hlS : ∀ s2 : S1, lnS s2 ra ia = N := fun s2 => by
    unfold lnS
    rw [hln, if_neg hN0]
  have hRA := (hK.2.2.2.2 ra (by omega) (by omega)).2
  have hat : atF ra = .object CT := by
    unfold atF
    rcases hka' with e | e <;> (rw [e, ← hec]; rfl)
  rw [hat] at hRA
  obtain ⟨kA, comp, k1, k2, k3, -⟩ := hRA
  obtain ⟨cv, q1, q2, q3, q4⟩ := born
  have hcls := hKn.2
  have hcomp : comp = (xP X).2.1.1 (ciF t) := Option.some.inj (k3.symm.trans hcls.1)
  subst hcomp
  refine W.aast (v := H.size) (cv := cv) hx hb d1' (fun q h => by cases h) (fun h => by cases h) k1 k2 rfl hkC ⟨Int32.not_lt.mpr hj.1, by rw [arrV_size, hlS]; exact hj.2⟩ q1 (fun q h => by rw [q3] at h; cases h) (by rw [q2]; exact hkC) (by rw [q2]; exact va_assign hcls) rfl rfl hd4 fun H2 b1 b2 b4 => ?_
  have hne0 : ¬ (ra = t ∧ ia = jj) := fun z => ht.2 z.1
  have hp := prs_nwO (s := s) hi
  have hsm : Sm t jj q (qU q t jj (nfF t)) s (nwO s t jj) := sm_nwO
  have hS2 := hS1.put (k := j.toNatClampNeg) b2 b4 d2
  have b5 : H2[H.size]? = H1[H.size]? := b4 _ (by rw [e1]; exact Nat.ne_of_gt d4)
  have hW1 : Wd (xP X) (qU q t jj (nfF t)) (nwO s t jj) H2 := by
    refine hW.mk hsm (by show H2.size = q.2.1 + 1; omega) (by show tot H2 = q.2.2 + _; rw [tot_put d1' b1 (setSlot_size _ _ _) b2 b4, htot1, e2]) hm2 (fun r x => r = ra ∧ x = ia) (fun r x hp hne ho => ⟨?_, hR r x hp ho⟩) (fun r x hpx hne ho => ?_) ⟨?_, by rw [qU_at]; exact hW.base, ?_, fun r x hp _ => by rw [qU_at]; exact Nat.ne_of_lt (hW.fresh r x hp)⟩ hp (kd_nw (sm_nwO (q := q) (M := 0)) ht.1 hp hW.2.2.2.2.2.2.2.2) (fun z => by have := hcT.1; omega)
    · rw [b4 _ fun z => ho (hW.2.2.2.1 _ _ _ _ hp hp0 z)]
      exact a3 _ (by rw [e1]; exact hW.fresh r x hp)
    · obtain ⟨rfl, rfl⟩ := ho
      unfold cellAt
      rw [if_neg (by omega), avP_ne (by omega), qU_ne hne0, b1, arrV_store, hlS, hlS]
      refine congrArg some (arrV_congr fun z hz => ?_)
      by_cases ez : z = j.toNatClampNeg
      · subst ez
        simp only [updV, if_pos]
        have ej := i_of_clamp hj.1
        have fl : gI (nwO s t jj) (128 * t + 127) jj = 1 := hp.1 hL.2
        unfold av
        rcases hka with ⟨ek, rfl⟩ | ⟨ek, rfl⟩
        · rw [ek]
          show _ = if gI (nwO s t jj) (128 * teF r + 127) (Int32.ofNat jj.toNatClampNeg) = 1 then _ else _
          rw [hte, ej, if_pos fl, qU_at, e1]
        · rw [ek]
          show _ = if gI (nwO s t (x * 200 + j)) (128 * teF r + 127) (x * 200 + Int32.ofNat j.toNatClampNeg) = 1 then _ else _
          rw [hte, ej, if_pos fl, qU_at, e1]
      · simp only [updV, if_neg ez]
        have hne2 : Int32.ofNat z ≠ j := i_ne (by have := lnF_lt r; omega) ez
        have hz2 : ∀ w : Int32, w ≠ jj → ¬ (teF r = t ∧ w = jj) := fun w hw z => hw z.2
        unfold av
        rcases hka with ⟨ek, rfl⟩ | ⟨ek, rfl⟩
        · rw [ek]
          show (if gI s (128 * teF r + 127) (Int32.ofNat z) = 1 then Value.ref (q.1 (teF r) (Int32.ofNat z)) else .null) = if gI (nwO s t jj) (128 * teF r + 127) (Int32.ofNat z) = 1 then Value.ref ((qU q t jj (nfF t)).1 (teF r) (Int32.ofNat z)) else .null
          rw [hsm.1 _ _ (hz2 _ hne2), (hsm.2.1 _ 127 _ (by decide) (hz2 _ hne2)).1]
        · rw [ek]
          have hne3 : x * 200 + Int32.ofNat z ≠ x * 200 + j := fun w => hne2 (by simpa using w)
          show (if gI s (128 * teF r + 127) (x * 200 + Int32.ofNat z) = 1 then Value.ref (q.1 (teF r) (x * 200 + Int32.ofNat z)) else .null) = if gI (nwO s t (x * 200 + j)) (128 * teF r + 127) (x * 200 + Int32.ofNat z) = 1 then Value.ref ((qU q t (x * 200 + j) (nfF t)).1 (teF r) (x * 200 + Int32.ofNat z)) else .null
          rw [hsm.1 _ _ (hz2 _ hne3), (hsm.2.1 _ 127 _ (by decide) (hz2 _ hne3)).1]
    · unfold cellAt
      rw [if_pos hcT.1, qU_at]
      refine ⟨cv, ?_, q2, q3, fun k hk => ?_⟩
      · rw [← e1, b5]
        exact q1
      · rw [fv_nwO hdv h5 hk]
        exact q4 k hk
    · unfold lnS
      split
      · rw [gI_nwO, if_pos ⟨by omega, rfl⟩, if_neg (by omega)]
        split <;> decide
      · exact lnF_lt t
  have hE : Exq (xP X) L q (qU q t jj (nfF t)) := exU (Or.inr fun hlt => hL.1 ((hW.2.2.2.2.2.2.2.1 t jj hi.1 hi.2 hlt).1 hL.2))
  have k2 := kk _ _ _ rfl hE hm1 hp h H2 _ hW1 hS2
  refine W.widen (k := cC (xP X) (xs X).heap.size) (n := cS (xP X) (tot (xs X).heap)) (by unfold cC; omega) (by unfold cS; omega) ?_
  exact k2
end NO
