/-! A row of bytes is cloned. -/
def clB (s : S1) (r : Nat) (i : Int32) : S1 := (fun f x => if f = 19839 ∧ x = 0 then 1 else if f = 19838 ∧ x = 0 then Int32.ofNat (lnS s r i) else s.1 f x, s.2.1, fun r' x y => if r' = 154 ∧ x = 0 then gA s r i y else s.2.2.1 r' x y, s.2.2.2)
theorem gI_clB (s : S1) (r f : Nat) (i x : Int32) : gI (clB s r i) f x = if f = 19839 ∧ x = 0 then 1 else if f = 19838 ∧ x = 0 then Int32.ofNat (lnS s r i) else gI s f x := rfl
theorem gL_clB (s : S1) (r f : Nat) (i x : Int32) : gL (clB s r i) f x = gL s f x := rfl
theorem gA_clB (s : S1) (r r' : Nat) (i x y : Int32) : gA (clB s r i) r' x y = if r' = 154 ∧ x = 0 then gA s r i y else gA s r' x y := rfl
theorem gB_clB (s : S1) (r r' : Nat) (i x y : Int32) : gB (clB s r i) r' x y = gB s r' x y := rfl
abbrev cloneY : MethodName := ⟨"[B", "clone", "()Ljava/lang/Object;"⟩
abbrev cloneO : MethodName := ⟨"java/lang/Object", "clone", "()Ljava/lang/Object;"⟩
section WCL
variable {p : Program} {l : Launch} {e : Env} {R : Room} {s : State} {m : MethodId} {args : Array Value} {below : List Frame} {meth : Method} {c : Code} {H : Heap} {locs : List Loc} {cells slots : Nat} {Q : State → Prop}
variable {cc : ByteArray} {pc : Nat} {ls : Array Slot} {rest : List Value} {a : Nat}
theorem w_clone (hexec : p.tables.exec = Jvm.exec) (hb : c.code = cc) (hml : c.maxLocals = ls.size) {own : String} {index i2 : Nat} (hown : s.vm.findClass own = some m.cls)
    (hlink : (Cond.methodLink own index cloneY).before args s = true) (hsame : (Cond.sameMethod "[B" "java/lang/Object" "clone" "()Ljava/lang/Object;").before args s = true) (hnat : (Cond.native cloneO).before args s = true) (hinst : (Cond.instanceMethod cloneO).before args s = true) (hsel : (Cond.selects "[B" cloneY cloneO).before args s = true) (hcl : va_Nw (.castable "[B" "java/lang/Cloneable") s) (hlk2 : (Cond.classLink own i2 "[B").before args s = true)
    {cA : ClassId} {N : Nat} {F : Nat → Value} (hc : H[a]? = some (arrV cA N F)) (ht : ArrOfT s cA .byte) (hRA : va_RA s cA .byte) (hfit : ∀ i, i < N → fits .byte (F i) = true)
    (hframes : 1 ≤ R.frames) (hlocals : (rest.map fun v => v.category).sum + 14 ≤ R.locals) (hcells : cells + 1 ≤ R.cells) (hslots : slots + N ≤ R.slots) (hdg : decode cc pc = .ok (.invokevirtual index, 3)) (hdg2 : decode cc (pc + 3) = .ok (.checkcast i2, 3))
    (kk : ∀ H1 : Heap, H1[H.size]? = some (arrV cA N F) → H1.size = H.size + 1 → (∀ q : Nat, q < H.size → H1[q]? = H[q]?) → W p l e R s m args below meth c H1 locs (cells + 1) (slots + N) Q (F0 m (pc + 6) ls (.ref H.size :: rest))) : W p l e R s m args below meth c H locs cells slots Q (F0 m pc ls (.ref a :: rest)) := by
  have hnm := va_nm_byte hRA
  obtain ⟨c0, t0', f1, f2, f3⟩ := Cond.castable_spec (va_Nw.use (A := args) rfl hcl)
  cases hnm.symm.trans f1
  intro T hT X
  have hcellT : T.heap[a]? = some (arrV cA N F) := by rw [hT]; exact hc
  obtain ⟨-, kA, hkA, comp, hkind⟩ := State.isArrayOf_alike X.warmed.alike (ht 0 (fun _ => .null))
  obtain ⟨-, kS, hkS, compS, hkindS⟩ := ht 0 (fun _ => .null)
  have hcellE : ({ cls := (arrV cA N F).cls, slots := (arrV cA N F).slots } : Cell) = arrV cA N F := rfl
  obtain ⟨vm', X', st⟩ := X.cloneArray hexec hown hlink hsame hnat hinst hsel (a := a) (cell := arrV cA N F) hcellT (fun k h => by cases h) (fun h => by cases h) hnm f2 f3
    (fun i v hv => by
      have hk' : T.vm.classes[cA]? = some kA := hkA
      simpa [State.fitsSlot, State.slotType?, hk', hkind, arrV] using va_fit hfit i v hv)
    (g := F0 m pc ls (.ref a :: rest)) rfl (by rw [hml]) rfl (by rw [hb]; exact hdg) hframes (by show 2 * 0 + _ + 14 ≤ _; omega) hcells (by rw [arrV_size]; exact hslots) (hloader := Vm.clonesLoader_of_array hkS hkindS)
  rw [hcellE, arrV_size] at X'
  generalize hH1 : H.push (arrV cA N F) = H1
  have z1 : H1.size = H.size + 1 := by rw [← hH1, Array.size_push]
  have e1 : H1[H.size]? = some (arrV cA N F) := by rw [← hH1, Array.getElem?_push_size]
  have o1 : ∀ q : Nat, q < H.size → H1[q]? = H[q]? := fun q hq => by rw [← hH1, Array.getElem?_push, if_neg (Nat.ne_of_lt hq)]
  have hh1 : ((T.setVm vm').pushCell (arrV cA N F)).heap = H1 := by rw [← hH1, ← hT]; rfl
  obtain ⟨vm2, X2, st2⟩ := X'.checkcastYes hexec hown hlk2 (a := H.size) (cell := arrV cA N F) (by rw [hh1]; exact e1) rfl hnm (va_asg _ _) (g := F0 m (pc + 3) ls (.ref H.size :: rest)) rfl rfl (by rw [hb]; exact hdg2)
  obtain ⟨t, b1, b2⟩ := kk H1 e1 z1 o1 (((T.setVm vm').pushCell (arrV cA N F)).setVm vm2) hh1 X2
  refine ⟨t, st t ?_, b2⟩
  rw [hcellE, hT]
  exact st2 t b1
end WCL
section CLN
variable {X : Cx} {q : PL} {s : S1} {y : MethodName} {cc : ByteArray} {nL : Nat} {ret : Option FieldType} {fr lo : Nat} {own : String} {pc : Nat} {ls : Array Slot} {rest : List Value} {α : Type} {o : α × S1} {L : List Nat} {m : Nat × Nat} {r : Nat} {i : Int32}
theorem ww_clone (g : Gd X y cc nL ret fr lo own) {index i2 : Nat} {N : Nat} (hp : prs s r i) (hk : rkF r = 2) (hN : lnS s r i = N) (hL : 154 ∈ L) (k1 : Cond.methodLink own index cloneY ∈ wA) (k2 : Cond.sameMethod "[B" "java/lang/Object" "clone" "()Ljava/lang/Object;" ∈ wA) (k3 : Cond.native cloneO ∈ wA) (k4 : Cond.instanceMethod cloneO ∈ wA) (k5 : Cond.selects "[B" cloneY cloneO ∈ wA) (k6 : Cond.castable "[B" "java/lang/Cloneable" ∈ xW) (k7 : Cond.classLink own i2 "[B" ∈ wA) (hR : 1 ≤ fr ∧ 22 ≤ lo) (hsz : ls.size = nL) (hrest : (rest.map fun v => v.category).sum ≤ 8) (hm : Rmq (xP X) q m) (hdg : decode cc pc = .ok (.invokevirtual index, 3)) (hdg2 : decode cc (pc + 3) = .ok (.checkcast i2, 3))
    {kt : Nat × Nat → M α} {kt2 : Nat × Nat → Unit → M α} (h : oB (oNw m N) kt s = some o) (hkt : ∀ m', kt m' = oB (oS fun s => clB s r i) (kt2 m')) (kk : ∀ (q' : PL) (m' : Nat × Nat) (s' : S1), s' = clB s r i → Exq (xP X) L q q' → Rmq (xP X) q' m' → prs s' 154 0 → kt2 m' () s' = some o → WW X q' s' (pc + 6) ls (.ref (q'.1 154 0) :: rest)) : WW X q s pc ls (.ref (q.1 r i) :: rest) := by
  intro H locs hW hS
  obtain ⟨⟨hx, hb⟩, hml, hown, hts, hK, ⟨hR1, hR2, hR3, hR4⟩, -⟩ := g
  obtain ⟨hr, h⟩ := oNw_in h
  rw [hkt] at h
  have h : kt2 _ () (clB s r i) = some o := h
  obtain ⟨hm1, hm2⟩ := hm.tk (t := 154) (i := 0) hr
  have e1 := hW.1
  have e2 := hW.2.1
  subst hN
  refine w_grow fun g1 g2 => ?_
  refine w_tight (k := H.size - (xs X).heap.size) (n := tot H - tot (xs X).heap) (by omega) (by omega) ?_
  have c0 := ar_cell hW hp (by omega) (by omega)
  have l1 := (hW.2.2.1 r i hp).2.2
  have hat : ∀ r, rkF r = 2 → atF r = .byte := fun r hr => by
    unfold atF
    rw [hr]
    rfl
  have hA := hK.2.2.2.2 r (by omega) (by omega)
  rw [hat r hk] at hA
  have hA2 := hK.2.2.2.2 154 (by decide) (by decide)
  have hcls : (xP X).2.2.1 r = (xP X).2.2.1 154 := by
    have a1 : (xs X).vm.findClass ("[" ++ FieldType.byte.toString) = some _ := hA.2
    have a2 : (xs X).vm.findClass ("[" ++ FieldType.byte.toString) = some _ := hA2.2
    exact Option.some.inj (a1.symm.trans a2)
  refine w_clone hx hb (hml.trans hsz.symm) hown (hts _ (List.mem_cons_of_mem _ k1)) (hts _ (List.mem_cons_of_mem _ k2)) (hts _ (List.mem_cons_of_mem _ k3)) (hts _ (List.mem_cons_of_mem _ k4)) (hts _ (List.mem_cons_of_mem _ k5)) (hK.2.2.1 _ k6) (hts _ (List.mem_cons_of_mem _ k7)) c0 hA.1 hA.2 (fun j _ => by rw [av_i (Or.inr (Or.inl hk))]; exact hW.2.2.2.2.2.2.1 r i _ hk) (by rw [hR1]; exact hR.1) (by rw [hR2]; omega) (by rw [hR3]; unfold cC; omega) (by rw [hR4]; unfold cS; omega) hdg hdg2 fun H1 a1 a2 a3 => ?_
  have hsm : Sm 154 0 q (qU q 154 0 (lnS s r i)) s (clB s r i) := by
    refine ⟨fun r x h => qU_ne h, fun r' k x hk h => ⟨?_, rfl⟩, fun r' x y h => ⟨by rw [gA_clB, if_neg h], rfl⟩⟩
    rw [gI_clB, if_neg fun z => h ⟨by have := z.1; omega, z.2⟩, if_neg fun z => h ⟨by have := z.1; omega, z.2⟩]
  have hp1 : prs (clB s r i) 154 0 := ⟨fun _ => by rw [gI_clB, if_pos ⟨rfl, rfl⟩], by decide, by decide⟩
  have hL1 : lnS (clB s r i) 154 0 = lnS s r i := by
    show (gI (clB s r i) 19838 0).toNatClampNeg = _
    rw [gI_clB, if_neg (by decide), if_pos ⟨rfl, rfl⟩]
    exact nI_clamp l1
  have hW1 : Wd (xP X) (qU q 154 0 (lnS s r i)) (clB s r i) H1 := by
    refine hW.mk hsm (by show H1.size = q.2.1 + 1; omega) (by show tot H1 = q.2.2 + _; rw [tot_grow a2 a1 a3, arrV_size, e2]) hm2 (fun _ _ => False) (fun r x hp hne _ => ⟨a3 _ (by rw [e1]; exact hW.fresh r x hp), nrf0 rfl rfl r x hp⟩) (fun _ _ _ _ z => z.elim) ⟨?_, by rw [qU_at]; exact hW.base, by rw [hL1]; exact l1, fun r x hp _ => by rw [qU_at]; exact Nat.ne_of_lt (hW.fresh r x hp)⟩ hp1 (kd_nw hsm (by decide) hp1 hW.2.2.2.2.2.2.2.2) (fun _ x => by rw [gA_clB, if_pos ⟨rfl, rfl⟩]; exact hW.2.2.2.2.2.2.1 r i _ hk)
    unfold cellAt
    rw [if_neg (by decide), avP_ne (by decide), qU_at, ← e1, a1, hL1, hcls]
    refine congrArg some (arrV_congr fun x hx => ?_)
    rw [av_i (Or.inr (Or.inl hk)), av_i (Or.inr (Or.inl (by decide))), gA_clB, if_pos ⟨rfl, rfl⟩]
  have hS1 : va_S (fun a => (xP X).1 ≤ a) (xs X).heap H1 locs := ⟨by omega, fun a b1 b2 => (a3 a (Nat.lt_of_lt_of_le b1 hS.1)).trans (hS.2.1 a b1 b2), hS.2.2⟩
  have k2 := kk _ _ _ rfl (exU (Or.inl hL)) hm1 hp1 h H1 locs hW1 hS1
  rw [qU_at] at k2
  refine W.widen (k := cC (xP X) (xs X).heap.size) (n := cS (xP X) (tot (xs X).heap)) (by unfold cC; omega) (by unfold cS; omega) ?_
  rw [e1]
  exact k2
end CLN
