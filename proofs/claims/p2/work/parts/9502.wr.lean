/-! The rows of a walk through a constructor. -/
def WN (X : Cx) (q : PL) (n : Nat) (pc : Nat) (ls : Array Slot) (st : List Value) : Prop := ∀ (H : Heap) (locs : List Loc), Wnn (xP X) q n H → va_S (fun a => (xP X).1 ≤ a) (xs X).heap H locs →
  W (xp X) (xl X) (xe X) (xR X) (xs X) (xm X) (xa X) (xb X) (xh X) (xc X) H locs (cC (xP X) (xs X).heap.size) (cS (xP X) (tot (xs X).heap)) (xq X) (F0 (xm X) pc ls st)
def Gn (X : Cx) (w0 : Cond) (cc : ByteArray) (nL : Nat) (fr lo : Nat) (own : String) : Prop :=
  Gx X cc ∧ (xc X).maxLocals = nL ∧ (xs X).vm.findClass own = some (xm X).cls ∧ (∀ w ∈ (w0 :: wA), w.before (xa X) (xs X) = true) ∧ Kk (xP X) (xs X) ∧
  ((xR X).frames = fr ∧ (xR X).locals = lo ∧ (xR X).cells = cC (xP X) (xs X).heap.size ∧ (xR X).slots = cS (xP X) (tot (xs X).heap))
theorem Gd.gn {X : Cx} {y : MethodName} {cc : ByteArray} {nL : Nat} {ret : Option FieldType} {fr lo : Nat} {own : String} (g : Gd X y cc nL ret fr lo own) : Gn X (Cond.code y cc nL ret) cc nL fr lo own := ⟨g.1, g.2.1, g.2.2.1, g.2.2.2.1, g.2.2.2.2.1, g.2.2.2.2.2.1⟩
section NR
variable {X : Cx} {q : PL} {n : Nat} {w0 : Cond} {y0 y : MethodName} {cc bytes : ByteArray} {nL maxL : Nat} {ret0 ret : Option FieldType} {fr0 lo0 fr lo : Nat} {own : String} {pc : Nat} {ls : Array Slot} {rest : List Value} {r k index : Nat} {i : Int32} {C : String} {T : u_T} {ty : Nat → FieldType} {m : Nat × Nat}
theorem nn_iconst (g : Gx X cc) {n1 : Int} {v : Int32} (hdg : decode cc pc = .ok (.iconst n1, 1)) (hv : Int32.ofInt n1 = v) (kk : WN X q n (pc + 1) ls (.int v :: rest)) : WN X q n pc ls rest := fun H locs u1 u2 => lv_iconst g.1 g.2 hdg hv (kk H locs u1 u2)
theorem nn_bipush (g : Gx X cc) {n1 : Int} {v : Int32} (hdg : decode cc pc = .ok (.bipush n1, 2)) (hv : (Int8.ofInt n1).toInt32 = v) (kk : WN X q n (pc + 2) ls (.int v :: rest)) : WN X q n pc ls rest := fun H locs u1 u2 => lv_bipush g.1 g.2 hdg hv (kk H locs u1 u2)
theorem nn_sipush (g : Gx X cc) {n1 : Int} {v : Int32} (hdg : decode cc pc = .ok (.sipush n1, 3)) (hv : (Int16.ofInt n1).toInt32 = v) (kk : WN X q n (pc + 3) ls (.int v :: rest)) : WN X q n pc ls rest := fun H locs u1 u2 => lv_sipush g.1 g.2 hdg hv (kk H locs u1 u2)
theorem nn_lconst (g : Gx X cc) {n1 : _root_.Fin 2} {v : Int64} (hdg : decode cc pc = .ok (.lconst n1, 1)) (hv : Int64.ofNat (n1 : Nat) = v) (kk : WN X q n (pc + 1) ls (.long v :: rest)) : WN X q n pc ls rest := fun H locs u1 u2 => lv_lconst g.1 g.2 hdg hv (kk H locs u1 u2)
theorem nn_null (g : Gx X cc) (hdg : decode cc pc = .ok (.aconst_null, 1)) (kk : WN X q n (pc + 1) ls (.null :: rest)) : WN X q n pc ls rest := fun H locs u1 u2 => lv_null g.1 g.2 hdg (kk H locs u1 u2)
theorem nn_iload_n (g : Gx X cc) {k1 : _root_.Fin 4} {j : Nat} {x : Int32} (hdg : decode cc pc = .ok (.iload_n k1, 1)) (hi : (k1 : Nat) = j) (hl : ls[j]? = some (.val (.int x))) (kk : WN X q n (pc + 1) ls (.int x :: rest)) : WN X q n pc ls rest := fun H locs u1 u2 => lv_iload_n g.1 g.2 hdg hi hl (kk H locs u1 u2)
theorem nn_aload_n (g : Gx X cc) {k1 : _root_.Fin 4} {j : Nat} {x : Nat} (hdg : decode cc pc = .ok (.aload_n k1, 1)) (hi : (k1 : Nat) = j) (hl : ls[j]? = some (.val (.ref x))) (kk : WN X q n (pc + 1) ls (.ref x :: rest)) : WN X q n pc ls rest := fun H locs u1 u2 => lv_aload_n g.1 g.2 hdg hi hl (kk H locs u1 u2)
theorem nn_astore_n (g : Gx X cc) {k1 : _root_.Fin 4} {j nM : Nat} {x : Nat} {lv lv' : List (Nat × Value)} (hdg : decode cc pc = .ok (.astore_n k1, 1)) (hi : (k1 : Nat) = j) (h : lv_has ls nM lv) (hn : j < nM) (hl : (j, Value.ref x) :: lv.filter (fun q => !(q.1 == j) && !(q.1 + 1 == j && q.2.category == 2)) = lv') (kk : ∀ ls' : Array Slot, lv_has ls' nM lv' → WN X q n (pc + 1) ls' rest) : WN X q n pc ls (.ref x :: rest) := fun H locs u1 u2 => lv_astore_n g.1 g.2 hdg hi h hn hl (fun a b => kk a b H locs u1 u2)
theorem nn_istore_n (g : Gx X cc) {k1 : _root_.Fin 4} {j nM : Nat} {x : Int32} {lv lv' : List (Nat × Value)} (hdg : decode cc pc = .ok (.istore_n k1, 1)) (hi : (k1 : Nat) = j) (h : lv_has ls nM lv) (hn : j < nM) (hl : (j, Value.int x) :: lv.filter (fun q => !(q.1 == j) && !(q.1 + 1 == j && q.2.category == 2)) = lv') (kk : ∀ ls' : Array Slot, lv_has ls' nM lv' → WN X q n (pc + 1) ls' rest) : WN X q n pc ls (.int x :: rest) := fun H locs u1 u2 => lv_istore_n g.1 g.2 hdg hi h hn hl (fun a b => kk a b H locs u1 u2)
theorem nn_iinc (g : Gx X cc) {j nM k1 : Nat} {n1 : Int} {x v : Int32} {lv lv' : List (Nat × Value)} (hdg : decode cc pc = .ok (.iinc j n1, 3)) (h : lv_has ls nM lv) (hk : lv[k1]? = some (j, .int x)) (hv : x + Int32.ofInt n1 = v) (hn : j < nM) (hl : (j, Value.int v) :: lv.filter (fun q => !(q.1 == j) && !(q.1 + 1 == j && q.2.category == 2)) = lv') (kk : ∀ ls' : Array Slot, lv_has ls' nM lv' → WN X q n (pc + 3) ls' rest) : WN X q n pc ls rest := fun H locs u1 u2 => lv_iinc g.1 g.2 hdg h hk hv hn hl (fun a b => kk a b H locs u1 u2)
theorem nn_dup (g : Gx X cc) {v : Value} (hdg : decode cc pc = .ok (.dup, 1)) (hv : v.category = 1) (kk : WN X q n (pc + 1) ls (v :: v :: rest)) : WN X q n pc ls (v :: rest) := fun H locs u1 u2 => lv_dup g.1 g.2 hdg hv (kk H locs u1 u2)
theorem nn_goto (g : Gx X cc) {off : Int} {tgt : Nat} (hdg : decode cc pc = .ok (.goto off, 3)) (ht : (pc : Int) + off = (tgt : Int)) (kk : WN X q n tgt ls rest) : WN X q n pc ls rest := fun H locs u1 u2 => lv_goto g.1 g.2 hdg ht (kk H locs u1 u2)
theorem nn_icmp_ge (g : Gx X cc) {x y1 : Int32} {off : Int} {tgt : Nat} (hdg : decode cc pc = .ok (.if_icmp .ge off, 3)) (ht : (pc : Int) + off = (tgt : Int)) (kt : y1 ≤ x → WN X q n tgt ls rest) (kf : ¬ y1 ≤ x → WN X q n (pc + 3) ls rest) : WN X q n pc ls (.int y1 :: .int x :: rest) := fun H locs u1 u2 => lv_icmp_ge g.1 g.2 hdg ht (fun a => kt a H locs u1 u2) (fun a => kf a H locs u1 u2)
theorem nn_ldc (g : Gn X w0 cc nL fr0 lo0 own) {v : Int32} (hk : Cond.constant own index v ∈ wA) (hdg : decode cc pc = .ok (.ldc index, 2)) (kk : WN X q n (pc + 2) ls (.int v :: rest)) : WN X q n pc ls rest := fun H locs u1 u2 => lv_ldc g.1.1 g.1.2 g.2.2.1 (g.2.2.2.1 _ (List.mem_cons_of_mem _ hk)) hdg (kk H locs u1 u2)
theorem nn_ldcw (g : Gn X w0 cc nL fr0 lo0 own) {v : Int32} (hk : Cond.constant own index v ∈ wA) (hdg : decode cc pc = .ok (.ldc_w index, 3)) (kk : WN X q n (pc + 3) ls (.int v :: rest)) : WN X q n pc ls rest := fun H locs u1 u2 => lv_ldcw g.1.1 g.1.2 g.2.2.1 (g.2.2.2.1 _ (List.mem_cons_of_mem _ hk)) hdg (kk H locs u1 u2)
theorem nn_ldcwS (g : Gn X w0 cc nL fr0 lo0 own) {t : Nat} (hn : t < nSt) (ho : stO t = own) (hi : stI t = index) (hdg : decode cc pc = .ok (.ldc_w index, 3)) (kk : WN X q n (pc + 3) ls (.ref (aK (xP X) t) :: rest)) : WN X q n pc ls rest := fun H locs u1 u2 => xldcw g.1.1 g.1.2 g.2.2.1 (ho ▸ hi ▸ (g.2.2.2.2.1.2.2.2.1.2.2 t hn).1) hdg (kk H locs u1 u2)
theorem nn_obj (g : Gn X w0 cc nL fr0 lo0 own) {a : Nat} (hw : Cond.methodLink own index objectInit ∈ wA) (hw1 : Cond.instanceMethod objectInit ∈ wA) (hw2 : Cond.code objectInit ⟨#[0xb1]⟩ 1 none ∈ wA) (hR : 1 ≤ fr0 ∧ 20 ≤ lo0) (hsz : ls.size = nL) (hrest : (rest.map fun v => v.category).sum ≤ 8) (hdg : decode cc pc = .ok (.invokespecial index, 3)) (kk : WN X q n (pc + 3) ls rest) : WN X q n pc ls (.ref a :: rest) := by
  intro H locs hW hS
  obtain ⟨⟨hx, hb⟩, hml, hown, hts, hK, ⟨hR1, hR2, -, -⟩⟩ := g
  refine W.objInit hx hb hown (hts _ (List.mem_cons_of_mem _ hw)) (hts _ (List.mem_cons_of_mem _ hw1)) (hts _ (List.mem_cons_of_mem _ hw2)) rfl (by rw [hml]; exact hsz) rfl hdg (by rw [hR1]; exact hR.1) (by rw [hR2]; show 2 * 0 + _ + 12 ≤ _; omega) (kk H locs hW hS)
/-- how a role's fields begin -/
def dvC (r : Nat) (ty : Nat → FieldType) : Prop := ∀ k, k < nfF r → defaultValue (ty k) = dvN (128 * r + k)
theorem dv_new {q' : PL} (v : vd r i) (hr : rkF r = 0) {k : Nat} (hk : k < nfF r) (hn : eo (128 * r + 127) i = n) : fNn q' (n + 1) r i k = dvN (128 * r + k) := by
  unfold fNn
  by_cases h0 : eoF (128 * r + k) = 0
  · rw [eo_0 h0, if_pos (by omega)]
    obtain ⟨z1, z2⟩ := z_ok r v.lt v.1 k hk h0
    unfold fv dvN
    split
    · next e => rw [e]; show Value.int (s0I _) = _; rw [z1 e]; rfl
    · next e => rw [e]; rfl
    · next e => exact absurd e z2
    · next e =>
      have z : gI S0 (128 * r + k) i = -1 := k4_ok r v.lt v.1 k hk e
      rw [e, z, vr_m1]; rfl
    · next e =>
      have z : gI S0 (128 * tgG (128 * r + k) + 127) i = 0 := s0_127 _
      rw [e, z, if_neg (by decide)]; rfl
    · next a b c d e => 
      revert a b c d e
      intro a b c d e
      split <;> first | rfl | (next e2 => exact absurd e2 (by assumption))
  · have := lt_ok v.lt v.1 hk h0
    have hr1 := v.lt
    have hk1 := nfF_le r
    rw [if_neg]
    intro z
    have p0 := pr_ok r v.lt v.1 (by have := v.2.2; omega)
    rcases cn_ok r v.lt v.1 with ⟨z1, z2⟩ | ⟨z1, z2⟩
    · rw [eo_T (Or.inl ⟨by omega, by omega⟩) p0] at hn
      rw [eo_T (Or.inl ⟨by omega, by omega⟩) h0] at z
      omega
    · rw [eo_S (by unfold tnF; omega)] at hn z
      omega
/-- 'new' -/
theorem nn_new (g : Gn X w0 cc nL fr0 lo0 own) (hc : ClF r C T ty) (hdv : dvC r ty) (v : vd r i) (hn : eo (128 * r + 127) i = n) (hm : Rnn (xP X) q (m.1 + 1, m.2 + nfF r))
    (hw1 : Cond.classLink own index C ∈ wA) (hw2 : Cond.instantiable C (nfF r) ∈ wA) (hw3 : Cond.initialized C ∈ wA) (hdg : decode cc pc = .ok (.new index, 3))
    (kk : ∀ (q' : PL) (a : Nat), Kpp n q q' → q'.1 r i = a → Rnn (xP X) q' m → WN X q' (n + 1) (pc + 3) ls (.ref a :: rest)) : WN X q n pc ls rest := by
  intro H locs hW hS
  obtain ⟨⟨hx, hb⟩, hml, hown, hts, hK, ⟨hR1, hR2, hR3, hR4⟩⟩ := g
  obtain ⟨m1, m2⟩ := hm
  have m1 : q.2.1 + (m.1 + 1) ≤ (xP X).2.2.2.1 := m1
  have m2 : q.2.2 + (m.2 + nfF r) ≤ (xP X).2.2.2.2 := m2
  have e1 := hW.1
  have e2 := hW.2.1
  refine w_grow fun g1 g2 => ?_
  refine w_tight (k := H.size - (xs X).heap.size) (n := tot H - tot (xs X).heap) (by omega) (by omega) ?_
  have hKn := hK.1.1 (ciF r) _ hc.2.1
  refine W.newcK (n := nfF r) hx hb hown (hts _ (List.mem_cons_of_mem _ hw1)) (hts _ (List.mem_cons_of_mem _ hw2)) (hts _ (List.mem_cons_of_mem _ hw3)) rfl hdg (by rw [hR3]; unfold cC; omega) (by rw [hR4]; unfold cS; omega) hKn.2.1 rfl fun H1 kC hkC a1 a2 a3 => ?_
  have hin : ∀ w ∈ u_ws C T (nfF r), w ∈ (w0 :: wA) := fun w h => List.mem_cons_of_mem _ (hc.2.2.1 w h)
  have born := u_born ty hts hin hKn hkC a1 hc.2.2.2.1
  have hS1 : va_S (fun a => (xP X).1 ≤ a) (xs X).heap H1 locs := ⟨by omega, fun a b1 b2 => (a3 a (Nat.lt_of_lt_of_le b1 hS.1)).trans (hS.2.1 a b1 b2), hS.2.2⟩
  have htot1 : tot H1 = tot H + nfF r := by
    rw [tot_grow a2 a1 a3]
    obtain ⟨cC', kC', w1, w2, w3, w4, w5, w6⟩ := Cond.instantiable_spec (hts _ (List.mem_cons_of_mem _ hw2))
    cases hKn.2.1.symm.trans w1
    cases hkC.symm.trans w2
    show _ + (Array.map defaultValue kC.instanceTypes).size = _
    rw [Array.size_map, w6]
  have hcN : cNn (xP X) (qU q r i (nfF r)) (n + 1) r i H1 := by
    unfold cNn
    rw [if_pos hc.1, qU_at, ← e1]
    exact born.to fun k hk => by rw [hdv k hk, dv_new v hc.1 hk hn]
  obtain ⟨hW1, kp⟩ := hW.new v hn a2 htot1 a3 hcN
  have hk2 := kk _ _ kp (qU_at q r i (nfF r)) ⟨by show q.2.1 + 1 + m.1 ≤ _; omega, by show q.2.2 + nfF r + m.2 ≤ _; omega⟩ H1 locs hW1 hS1
  refine W.widen (k := cC (xP X) (xs X).heap.size) (n := cS (xP X) (tot (xs X).heap)) (by unfold cC; omega) (by unfold cS; omega) ?_
  rw [e1]
  exact hk2
theorem atN4 {t : Nat} {at0 : ArrayType} (hat : newarray.typeOf at0 = atF t) (hk : rkF t = 1 ∨ rkF t = 2 ∨ rkF t = 3 ∨ rkF t = 4) : defaultValue (newarray.typeOf at0) = zV t ∧ componentBytes (newarray.typeOf at0) ≤ 8 ∧ ∀ {U : State} {c : ClassId}, va_RA U c (atF t) → U.vm.findClass ("[" ++ (newarray.typeOf at0).toString) = some c := by
  rw [hat]
  unfold atF zV
  rcases hk with h | h | h | h <;> rw [h] <;> exact ⟨rfl, by first | exact (by decide : componentBytes .int ≤ 8) | exact (by decide : componentBytes .byte ≤ 8) | exact (by decide : componentBytes .long ≤ 8) | exact (by decide : componentBytes .boolean ≤ 8), fun z => z⟩
theorem aN_new {P : PP} {q' : PL} {j : Nat} (hk : rkF r = 1 ∨ rkF r = 2 ∨ rkF r = 3 ∨ rkF r = 4) : aN P q' n r i j = zV r := by
  unfold aN
  rw [if_neg (by omega), if_neg (by omega)]
  unfold av zV
  rcases hk with h | h | h | h <;> rw [h] <;> rfl
/-- a row of numbers -/
theorem nn_arr (g : Gn X w0 cc nL fr0 lo0 own) {at0 : ArrayType} {l1 : Int32} {N : Nat} (hat : newarray.typeOf at0 = atF r) (hk : rkF r = 1 ∨ rkF r = 2 ∨ rkF r = 3 ∨ rkF r = 4) (v : vd r i) (hn : eo (128 * r + 127) i = n) (hl : l1.toNatClampNeg = N) (hl2 : lnS S0 r i = N) (h0 : 0 ≤ l1) (hN : N ≤ 60000000) (hm : Rnn (xP X) q (m.1 + 1, m.2 + N))
    (hw : Cond.arrayClass (newarray.typeOf at0) ∈ wA) (hdg : decode cc pc = .ok (.newarray at0, 2))
    (kk : ∀ (q' : PL) (a : Nat), Kpp n q q' → q'.1 r i = a → Rnn (xP X) q' m → WN X q' (n + 1) (pc + 2) ls (.ref a :: rest)) : WN X q n pc ls (.int l1 :: rest) := by
  intro H locs hW hS
  obtain ⟨⟨hx, hb⟩, hml, hown, hts, hK, ⟨hR1, hR2, hR3, hR4⟩⟩ := g
  obtain ⟨m1, m2⟩ := hm
  have m1 : q.2.1 + (m.1 + 1) ≤ (xP X).2.2.2.1 := m1
  have m2 : q.2.2 + (m.2 + N) ≤ (xP X).2.2.2.2 := m2
  have e1 := hW.1
  have e2 := hW.2.1
  obtain ⟨z1, z2, z3⟩ := atN4 hat hk
  refine w_grow fun g1 g2 => ?_
  refine w_tight (k := H.size - (xs X).heap.size) (n := tot H - tot (xs X).heap) (by omega) (by omega) ?_
  refine va_newaK hx hb (hts _ (List.mem_cons_of_mem _ hw)) rfl hdg rfl (Int32.not_lt.mpr h0) hl (Nat.le_trans (Nat.mul_le_mul hN z2) (by decide)) (by rw [hR3]; unfold cC; omega) (by rw [hR4]; unfold cS; omega) rfl fun H1 cA a1 a2 a3 hAr hNm => ?_
  have hRA := (hK.2.2.2.2 r (by omega) (by omega)).2
  have hcA : cA = (xP X).2.2.1 r := Option.some.inj (hNm.symm.trans (z3 hRA))
  subst hcA
  rw [z1] at a1
  have hS1 : va_S (fun a => (xP X).1 ≤ a) (xs X).heap H1 locs := ⟨by omega, fun a b1 b2 => (a3 a (Nat.lt_of_lt_of_le b1 hS.1)).trans (hS.2.1 a b1 b2), hS.2.2⟩
  have htot1 : tot H1 = tot H + N := by
    rw [tot_grow a2 a1 a3, arrV_size]
  have hcN : cNn (xP X) (qU q r i N) (n + 1) r i H1 := by
    unfold cNn
    rw [if_neg (by omega), qU_at, ← e1, a1, hl2]
    exact congrArg some (arrV_congr fun j _ => (aN_new hk).symm)
  obtain ⟨hW1, kp⟩ := hW.new v hn a2 htot1 a3 hcN
  have hk2 := kk _ _ kp (qU_at q r i N) ⟨by show q.2.1 + 1 + m.1 ≤ _; omega, by show q.2.2 + N + m.2 ≤ _; omega⟩ H1 locs hW1 hS1
  refine W.widen (k := cC (xP X) (xs X).heap.size) (n := cS (xP X) (tot (xs X).heap)) (by unfold cC; omega) (by unfold cS; omega) ?_
  rw [e1]
  exact hk2
/-- a row of objects or texts: all of them none -/
theorem nn_anew (g : Gn X w0 cc nL fr0 lo0 own) {l1 : Int32} {N : Nat} (hk : rkF r = 5 ∨ rkF r = 6 ∨ rkF r = 8) (v : vd r i) (hn : eo (128 * r + 127) i = n) (hl : l1.toNatClampNeg = N) (hl2 : lnS S0 r i = N) (h0 : 0 ≤ l1) (hN : N ≤ 60000000) (hz : ∀ j, j < N → aN (xP X) (qU q r i N) (n + 1) r i j = .null) (hm : Rnn (xP X) q (m.1 + 1, m.2 + N))
    (hw : Cond.classLink own index (ecF r) ∈ wA) (hw2 : Cond.arrayOver (.object (ecF r)) ∈ xW) (hdg : decode cc pc = .ok (.anewarray index, 3))
    (kk : ∀ (q' : PL) (a : Nat), Kpp n q q' → q'.1 r i = a → Rnn (xP X) q' m → WN X q' (n + 1) (pc + 3) ls (.ref a :: rest)) : WN X q n pc ls (.int l1 :: rest) := by
  intro H locs hW hS
  obtain ⟨⟨hx, hb⟩, hml, hown, hts, hK, ⟨hR1, hR2, hR3, hR4⟩⟩ := g
  obtain ⟨m1, m2⟩ := hm
  have m1 : q.2.1 + (m.1 + 1) ≤ (xP X).2.2.2.1 := m1
  have m2 : q.2.2 + (m.2 + N) ≤ (xP X).2.2.2.2 := m2
  have e1 := hW.1
  have e2 := hW.2.1
  subst hl
  refine w_grow fun g1 g2 => ?_
  refine w_tight (k := H.size - (xs X).heap.size) (n := tot H - tot (xs X).heap) (by omega) (by omega) ?_
  refine W.anew hx hb hown (hts _ (List.mem_cons_of_mem _ hw)) (va_AO.use (show va_AO (ecF r) (xs X) from hK.2.2.1 _ hw2)) rfl hdg rfl (Int32.not_lt.mpr h0) (by omega) (by rw [hR3]; unfold cC; omega) (by rw [hR4]; unfold cS; omega) fun cA kA comp f1 f2 f3 f4 => ?_
  generalize hH1 : H.push ({ cls := cA, slots := Array.replicate l1.toNatClampNeg .null, vm := .none } : Cell) = H1
  have a2 : H1.size = H.size + 1 := by rw [← hH1, Array.size_push]
  have a1 : H1[H.size]? = some (arrV cA l1.toNatClampNeg (fun _ => .null)) := by rw [← hH1, Array.getElem?_push_size, ← arrV_new]
  have a3 : ∀ q : Nat, q < H.size → H1[q]? = H[q]? := fun q hq => by rw [← hH1, Array.getElem?_push, if_neg (Nat.ne_of_lt hq)]
  have hat : atF r = .object (ecF r) := by
    unfold atF
    rcases hk with h | h | h <;> rw [h] <;> rfl
  have hRA := (hK.2.2.2.2 r (by omega) (by omega)).2
  rw [hat] at hRA
  obtain ⟨kA', comp', p1, p2, p3, p4⟩ := hRA
  have hcA : cA = (xP X).2.2.1 r := Option.some.inj (f1.symm.trans p4)
  subst hcA
  have hS1 : va_S (fun a => (xP X).1 ≤ a) (xs X).heap H1 locs := ⟨by omega, fun a b1 b2 => (a3 a (Nat.lt_of_lt_of_le b1 hS.1)).trans (hS.2.1 a b1 b2), hS.2.2⟩
  have htot1 : tot H1 = tot H + l1.toNatClampNeg := by
    rw [tot_grow a2 a1 a3, arrV_size]
  have hcN : cNn (xP X) (qU q r i l1.toNatClampNeg) (n + 1) r i H1 := by
    unfold cNn
    rw [if_neg (by omega), qU_at, ← e1, a1, hl2]
    exact congrArg some (arrV_congr fun j hj => (hz j hj).symm)
  obtain ⟨hW1, kp⟩ := hW.new v hn a2 htot1 a3 hcN
  have hk2 := kk _ _ kp (qU_at q r i _) ⟨by show q.2.1 + 1 + m.1 ≤ _; omega, by show q.2.2 + l1.toNatClampNeg + m.2 ≤ _; omega⟩ H1 locs hW1 hS1
  refine W.widen (k := cC (xP X) (xs X).heap.size) (n := cS (xP X) (tot (xs X).heap)) (by unfold cC; omega) (by unfold cS; omega) ?_
  rw [← e1] at hk2
  exact hk2
/-- a field is written -/
theorem nn_put (g : Gd X y0 cc nL ret fr lo own) (hc : ClF r C T ty) (p : pNn n r i) (hk : k < nfF r) (hl : Fl own index C (T k).2.1 (T k).2.2.1) (hfin : (T k).2.2.2 = false ∨ ((T k).2.2.2 = true ∧ (xh X).name = "<init>" ∧ C = own ∧ Cond.fieldLink own index C (T k).2.1 (T k).2.2.1 ∈ wA)) {a n' : Nat} {v : Value} (ha : q.1 r i = a) (hnr : narrow (ty k) v = v) (hfit : fits (ty k) v = true)
    (hv : (eo (128 * r + k) i = n ∧ n' = n + 1 ∧ v = fv q S0 r i k) ∨ (n' = n ∧ v = fNn q n r i k)) (hdg : decode cc pc = .ok (.putfield index, 3)) (kk : WN X q n' (pc + 3) ls rest) : WN X q n pc ls (v :: .ref a :: rest) := by
  intro H locs hW hS
  subst ha
  obtain ⟨hcell, hB⟩ := hW.2.2.1 r i p
  have hcell' := hcell
  unfold cNn at hcell
  rw [if_pos hc.1] at hcell
  refine rw_put g hc hcell hk hl hfin hnr hfit hB hS hdg fun H1 locs1 e z zt oq hS1 => ?_
  rcases hv with ⟨h1, rfl, rfl⟩ | ⟨rfl, rfl⟩
  · exact kk H1 locs1 (hW.put p hc.1 hk h1 e z zt oq) hS1
  · exact kk H1 locs1 (hW.same p hc.1 e z zt oq) hS1
/-- a field that holds its own is read -/
theorem nn_get (g : Gd X y0 cc nL ret fr lo own) (hc : ClF r C T ty) (p : pNn n r i) (hk : k < nfF r) (hl : Fl own index C (T k).2.1 (T k).2.2.1) {a b t : Nat} (ha : q.1 r i = a) (hn : eo (128 * r + k) i < n) (h2 : tcG (128 * r + k) = 2) (ht : tgG (128 * r + k) = t) (hb' : q.1 t i = b) (hdg : decode cc pc = .ok (.getfield index, 3))
    (kk : WN X q n (pc + 3) ls (.ref b :: rest)) : WN X q n pc ls (.ref a :: rest) := by
  intro H locs hW hS
  subst ha
  obtain ⟨⟨hx, hb⟩, -, hown, hts, hK, -⟩ := g
  have hcell := (hW.2.2.1 r i p).1
  unfold cNn at hcell
  rw [if_pos hc.1] at hcell
  obtain ⟨cell, q1, q2, q3, q4⟩ := hcell
  obtain ⟨hSl, hfc, kC, hkC, hkind⟩ := hK.1.1 (ciF r) _ hc.2.1
  obtain ⟨cf, kf, fi, f, hi, hsl⟩ := hSl k hk
  have hst := (u_facts hfc hkC (u_lays hts (fun w h => List.mem_cons_of_mem _ (hc.2.2.1 w h)) hk) hi).1
  have hi2 : (xs X).fieldFound? C (T k).2.1 (T k).2.2.1 = some (cf, kf, fi, f) := by rw [← hc.2.2.2.2.2 k]; exact hi
  have hv : cell.slots[f.slot]? = some (.ref b) := by
    rw [hsl, q4 k hk]
    unfold fNn
    rw [if_pos hn]
    unfold fv
    rw [h2]
    show some (Value.ref (q.1 (tgG (128 * r + k)) i)) = _
    rw [ht, hb']
  rcases hl with hl | ⟨host, hl⟩
  · exact W.getf hx hb hown (hts _ (List.mem_cons_of_mem _ hl)) hi2 hst q1 (by rw [q3]; exact fun h => by cases h) hv rfl rfl hdg (kk H locs hW hS)
  · exact va_Wgetf hx hb hown (va_Nw.use rfl (hK.2.2.1 _ hl)) hi2 hst q1 (by rw [q3]; exact fun h => by cases h) hv rfl rfl hdg (kk H locs hW hS)
/-! Contracts of constructors. -/
def PeN (P : PP) (q : PL) (n : Nat) : State → Prop := fun U => Wnn P q n U.heap ∧ Kk P U
def QeN (P : PP) (q : PL) (n : Nat) (m : Nat × Nat) (n' : Nat) : Array Value → State → Outcome → State → Prop := fun _ st oc t => ∃ q' : PL, oc = .returned none ∧ Kpp n q q' ∧ Rnn P q' m ∧ Wnn P q' n' t.heap ∧ va_F (fun a => P.1 ≤ a) st t
def RtN (X : Cx) (q : PL) (n : Nat) (m : Nat × Nat) (n' : Nat) : Prop := xq X = MQ (xb X) (QeN (xP X) q n m n') (xa X) (xs X) (cC (xP X) (xs X).heap.size) (cS (xP X) (tot (xs X).heap)) (fun a => (xP X).1 ≤ a)
def CtN (l : Launch) (y : MethodName) (cc : ByteArray) (nL : Nat) (fr lo : Nat) (P : PP) (q : PL) (n : Nat) (argv : List Value) (m : Nat × Nat) (n' : Nat) : Prop :=
  Met l y (Cond.code y cc nL none :: wA) { frames := fr, cells := cC P q.2.1, slots := cS P q.2.2, locals := lo } (va_Pc argv (PeN P q n)) (QeN P q n m n') (cC P q.2.1) (cS P q.2.2) (fun a => P.1 ≤ a)
theorem ctN_of {l : Launch} {P : PP} {n' : Nat} {argv : List Value}
    (hy : plainName y.cls = true) (hin : y.name = "<init>") (hn : (lg_sl argv).length ≤ nL)
    (k : ∀ (X : Cx) (ls : Array Slot), xP X = P → xl X = l → Gd X y cc nL none fr lo y.cls → (xh X).name = "<init>" → RtN X q n m n' → lv_has ls nL (lv_args 0 argv) → WN X q n 0 ls []) : CtN l y cc nL fr lo P q n argv m n' := by
  refine Met.ofW (cc := cc) (maxL := nL) (ret := none) hy rfl ?_
  intro p e s0 m0 args below meth c s₁ B hml hv
  obtain ⟨rfl, hW, hK⟩ := hv
  have hts := atoms_spec (ws := Cond.code y cc nL none :: wA) B.pre
  have hnm : meth.name = "<init>" := (name_of_methodNamed B.named B.method).1.trans hin
  have e1 : s0.heap.size = q.2.1 := hW.1
  have e2 : tot s0.heap = q.2.2 := hW.2.1
  have hl := lv_entry argv (n := nL) hn
  rw [lg_entry_eq]
  have z := k ((p, l, e, (headSpec (Cond.code y cc nL none :: wA) { frames := fr, cells := cC P q.2.1, slots := cS P q.2.2, locals := lo }).room, s0, m0), (argv.toArray, below, meth, c), MQ below (QeN P q n m n') argv.toArray s0 (cC P q.2.1) (cS P q.2.2) (fun a => P.1 ≤ a), P) _ rfl rfl
    ⟨⟨B.exec, B.bytes⟩, hml, findClass_of_methodNamed B.named, hts, hK, ⟨rfl, rfl, by show cC P q.2.1 = cC P s0.heap.size; rw [e1], by show cS P q.2.2 = cS P (tot s0.heap); rw [e2]⟩, B.returns, B.notSynchronized⟩ hnm
    (by unfold RtN; show MQ _ _ _ _ _ _ _ = MQ _ _ _ _ (cC P s0.heap.size) (cS P (tot s0.heap)) _; rw [e1, e2]) hl s0.heap [] hW va_S.rf
  exact w_tight (by omega) (by omega) z
theorem pen_blind (P : PP) (q : PL) (n : Nat) (av : List Value) : FrameBlind (va_Pc av (PeN P q n)) := fun a U g mk h => ⟨h.1, h.2.1, Kk.at (s := U) (U := U.calling g mk a) (State.WarmedH.refl U) (fun _ _ _ => rfl) h.2.2⟩
theorem nn_ret (g : Gd X y0 cc nL none fr lo own) {q0 : PL} {n0 : Nat} (hR : RtN X q0 n0 m n) (hk : Kpp n0 q0 q) (hm : Rnn (xP X) q m) (hdg : decode cc pc = .ok (.return_, 1)) : WN X q n pc ls [] := by
  intro H locs hW hS
  obtain ⟨⟨hx, hb⟩, -, hown, hts, hK, -, hr, hlk⟩ := g
  rw [hR]
  exact W.vret hx hb hr (fun t ht _ => ⟨q, rfl, hk, hm, by rw [ht]; exact hW, hS.F ht⟩) hS.2.2 hdg hlk
/-- a constructor is called -/
theorem nn_call (g : Gn X w0 cc nL fr0 lo0 own) {n' nA : Nat} {As : List Value} {a : Nat} {st0 : List Value} (hv : CIi y bytes maxL nA) (hm : Ml own index y) (hM : CtN (xl X) y bytes maxL fr lo (xP X) q n (.ref a :: As) m n') (hm0 : Rnn (xP X) q (0, 0)) (hR : fr + 1 ≤ fr0 ∧ 8 + (maxL + 11) + lo ≤ lo0) (hn : As.length = nA) (hsz : ls.size = nL) (hrest : (rest.map fun v => v.category).sum ≤ 8) (hdg : decode cc pc = .ok (.invokespecial index, 3)) (hst : st0 = As.reverse ++ .ref a :: rest)
    (kk : ∀ q', Kpp n q q' → Rnn (xP X) q' m → WN X q' n' (pc + 3) ls rest) : WN X q n pc ls st0 := by
  subst hst
  obtain ⟨v0, v1, v3, v4, v5⟩ := hv
  obtain ⟨⟨hx, hb⟩, hml, hown, hts, hK, ⟨hR1, hR2, hR3, hR4⟩⟩ := g
  intro H locs hW hS
  obtain ⟨m1, m2⟩ := hm0
  have m1 : q.2.1 + 0 ≤ (xP X).2.2.2.1 := m1
  have m2 : q.2.2 + 0 ≤ (xP X).2.2.2.2 := m2
  have e1 := hW.1
  have e2 := hW.2.1
  refine w_grow fun z1 z2 => ?_
  refine w_tight (k := H.size - (xs X).heap.size) (n := tot H - tot (xs X).heap) (by omega) (by omega) ?_
  have f1 : H.size - (xs X).heap.size + cC (xP X) q.2.1 ≤ cC (xP X) (xs X).heap.size := by unfold cC; omega
  have f2 : tot H - tot (xs X).heap + cS (xP X) q.2.2 ≤ cS (xP X) (tot (xs X).heap) := by unfold cS; omega
  have hpre : PreS (xs X) H (va_Pc (.ref a :: As) (PeN (xP X) q n)) (.ref a :: As) := ⟨pen_blind _ _ _ _, fun U hU hWm => ⟨rfl, by rw [hU]; exact hW, Kk.at hWm (by rw [hU]; exact hS.2.1) hK⟩⟩
  have hG : GoodIn (w0 :: wA) (Cond.code y bytes maxL none :: wA) := gC v4
  have hrun : va_Run (xp X) (xl X) (xe X) (xR X) (xs X) (xm X) (xa X) (xb X) (xh X) (xc X) H locs (H.size - (xs X).heap.size) (tot H - tot (xs X).heap) (cC (xP X) q.2.1) (cS (xP X) q.2.2) (F0 (xm X) pc ls (As.reverse ++ .ref a :: rest)) rest (QeN (xP X) q n m n' (Value.ref a :: As).toArray) (fun a => (xP X).1 ≤ a) := by
    rcases hm with hm | ⟨host, hm⟩
    · exact va_runI (Ts := w0 :: wA) ⟨hx, hb, hml, hown, hts⟩ hM ⟨callB_of nA hts hG rfl rfl rfl (hts _ (List.mem_cons_of_mem _ v3)) (hts _ (List.mem_cons_of_mem _ hm)) v5 (by rw [hR1, hR2]; exact hR), v0, hts _ (List.mem_cons_of_mem _ v1)⟩ hpre rfl hn hsz rfl (lv_room hrest) hdg (by rw [hR3, hR4]; exact ⟨f1, f2⟩)
    · exact va_runIN (Ts := w0 :: wA) ⟨hx, hb, hml, hown, hts⟩ hM ⟨va_cnB nA hts hG rfl rfl rfl (hK.2.2.1 _ hm) (hts _ (List.mem_cons_of_mem _ v3)) v5 (by rw [hR1, hR2]; exact hR), v0, hts _ (List.mem_cons_of_mem _ v1)⟩ hpre rfl hn hsz rfl (lv_room hrest) hdg (by rw [hR3, hR4]; exact ⟨f1, f2⟩)
  intro T hT Xs
  obtain ⟨v, st0, t, T', L', h0, X', hL, e5, e6, ⟨q1, hv, hx1, hn1, hWd, hF⟩, st⟩ := hrun T hT Xs
  cases hv
  obtain ⟨t2, a1, b1⟩ := kk q1 hx1 hn1 T'.heap (locs ++ L') (by rw [e5]; exact hWd)
    ⟨by rw [e5]; exact Nat.le_trans hS.1 (h0 ▸ hF.1), fun a ha hn => by rw [e5, hF.2 a (by rw [h0]; exact Nat.lt_of_lt_of_le ha hS.1) hn, h0]; exact hS.2.1 a ha hn, fun a ha => by
      rcases List.mem_append.mp ha with z | z
      · exact hS.2.2 a z
      · exact hL a z⟩ T' rfl (stand_widen X' f1 f2)
  exact ⟨t2, st t2 a1, b1⟩
theorem Rnn.le {P : PP} {m' : Nat × Nat} (h : Rnn P q m) (h1 : m'.1 ≤ m.1) (h2 : m'.2 ≤ m.2) : Rnn P q m' := ⟨by have := h.1; omega, by have := h.2; omega⟩
theorem fvR {s : S1} {t : Nat} (h2 : tcG (128 * r + k) = 2) (ht : tgG (128 * r + k) = t) {b : Nat} (hb : q.1 t i = b) : Value.ref b = fv q s r i k := by
  unfold fv
  rw [h2]
  show _ = Value.ref (q.1 (tgG (128 * r + k)) i)
  rw [ht, hb]
theorem fvI {s : S1} {x : Int32} (h2 : tcG (128 * r + k) = 0) (hx : gI s (128 * r + k) i = x) : Value.int x = fv q s r i k := by
  unfold fv
  rw [h2]
  show _ = Value.int (gI s (128 * r + k) i)
  rw [hx]
/-- what is written at no time, or not yet -/
theorem fN_dv {w : Value} (h : (eoF (128 * r + k) ≠ 0 ∧ n ≤ eo (128 * r + k) i ∧ w = dvN (128 * r + k)) ∨ (eoF (128 * r + k) = 0 ∧ 0 < n ∧ w = fv q S0 r i k)) : w = fNn q n r i k := by
  unfold fNn
  rcases h with ⟨-, h1, h2⟩ | ⟨h0, h1, h2⟩
  · rw [if_neg (by omega)]
    exact h2
  · rw [if_pos (by rw [eo_0 h0]; exact h1)]
    exact h2
end NR
