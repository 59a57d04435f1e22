/-! System.arraycopy between rows of ints or bytes, of longs. -/
def sAf (s : S1) (r : Nat) (i : Int32) (f : Int32 → Int32) : S1 := (s.1, s.2.1, fun r' i' => if r' = r ∧ i' = i then f else s.2.2.1 r' i', s.2.2.2)
def sBf (s : S1) (r : Nat) (i : Int32) (f : Int32 → Int64) : S1 := (s.1, s.2.1, s.2.2.1, fun r' i' => if r' = r ∧ i' = i then f else s.2.2.2 r' i')
theorem gI_sAf (s : S1) (r f : Nat) (i i' : Int32) (g : Int32 → Int32) : gI (sAf s r i g) f i' = gI s f i' := rfl
theorem gL_sAf (s : S1) (r f : Nat) (i i' : Int32) (g : Int32 → Int32) : gL (sAf s r i g) f i' = gL s f i' := rfl
theorem gB_sAf (s : S1) (r f : Nat) (i i' j : Int32) (g : Int32 → Int32) : gB (sAf s r i g) f i' j = gB s f i' j := rfl
theorem gA_sAf (s : S1) (r r' : Nat) (i i' j : Int32) (g : Int32 → Int32) : gA (sAf s r i g) r' i' j = if r' = r ∧ i' = i then g j else gA s r' i' j := by
  unfold gA sAf
  split
  · next e => simp [e]
  · next e => simp [e]
theorem gI_sBf (s : S1) (r f : Nat) (i i' : Int32) (g : Int32 → Int64) : gI (sBf s r i g) f i' = gI s f i' := rfl
theorem gL_sBf (s : S1) (r f : Nat) (i i' : Int32) (g : Int32 → Int64) : gL (sBf s r i g) f i' = gL s f i' := rfl
theorem gA_sBf (s : S1) (r f : Nat) (i i' j : Int32) (g : Int32 → Int64) : gA (sBf s r i g) f i' j = gA s f i' j := rfl
theorem gB_sBf (s : S1) (r r' : Nat) (i i' j : Int32) (g : Int32 → Int64) : gB (sBf s r i g) r' i' j = if r' = r ∧ i' = i then g j else gB s r' i' j := by
  unfold gB sBf
  split
  · next e => simp [e]
  · next e => simp [e]
def cpI (s : S1) (ra : Nat) (ia : Int32) (rb : Nat) (ib sp dp n : Int32) : Int32 → Int32 := fun j => if dp ≤ j ∧ j < dp + n then gA s ra ia (sp + (j - dp)) else gA s rb ib j
def cpL (s : S1) (ra : Nat) (ia : Int32) (rb : Nat) (ib sp dp n : Int32) : Int32 → Int64 := fun j => if dp ≤ j ∧ j < dp + n then gB s ra ia (sp + (j - dp)) else gB s rb ib j
def inC (na nb sp dp n : Int32) : Prop := 0 ≤ sp ∧ 0 ≤ dp ∧ 0 ≤ n ∧ sp ≤ na ∧ n ≤ na - sp ∧ dp ≤ nb ∧ n ≤ nb - dp
abbrev inCd (na nb sp dp n : Int32) : Decidable (inC na nb sp dp n) := by unfold inC; exact inferInstance
def oCI (ra : Nat) (ia na : Int32) (rb : Nat) (ib nb sp dp n : Int32) : M Unit := fun s => if 0 ≤ sp ∧ 0 ≤ dp ∧ 0 ≤ n ∧ sp ≤ na ∧ n ≤ na - sp ∧ dp ≤ nb ∧ n ≤ nb - dp then some ((), sAf s rb ib (cpI s ra ia rb ib sp dp n)) else none
def oCL (ra : Nat) (ia na : Int32) (rb : Nat) (ib nb sp dp n : Int32) : M Unit := fun s => if 0 ≤ sp ∧ 0 ≤ dp ∧ 0 ≤ n ∧ sp ≤ na ∧ n ≤ na - sp ∧ dp ≤ nb ∧ n ≤ nb - dp then some ((), sBf s rb ib (cpL s ra ia rb ib sp dp n)) else none
theorem cp_num {na nb sp dp n : Int32} (h : 0 ≤ sp ∧ 0 ≤ dp ∧ 0 ≤ n ∧ sp ≤ na ∧ n ≤ na - sp ∧ dp ≤ nb ∧ n ≤ nb - dp) : sp.toNatClampNeg + n.toNatClampNeg ≤ na.toNatClampNeg ∧ dp.toNatClampNeg + n.toNatClampNeg ≤ nb.toNatClampNeg := by
  have a (x : Int32) : x.toNatClampNeg = x.toInt.toNat := rfl
  obtain ⟨h1, h2, h3, h4, h5, h6, h7⟩ := h
  have z0 : (0 : Int32).toInt = 0 := rfl
  have b1 := Int32.le_iff_toInt_le.mp h1
  have b2 := Int32.le_iff_toInt_le.mp h2
  have b3 := Int32.le_iff_toInt_le.mp h3
  have b4 := Int32.le_iff_toInt_le.mp h4
  have b6 := Int32.le_iff_toInt_le.mp h6
  have e5 : (na - sp).toInt = na.toInt - sp.toInt := by
    have u1 := Int32.toInt_lt na
    have u2 := Int32.toInt_lt sp
    rw [Int32.toInt_sub]
    exact Int.bmod_eq_of_le (by omega) (by omega)
  have e7 : (nb - dp).toInt = nb.toInt - dp.toInt := by
    have u1 := Int32.toInt_lt nb
    have u2 := Int32.toInt_lt dp
    rw [Int32.toInt_sub]
    exact Int.bmod_eq_of_le (by omega) (by omega)
  have b5 := Int32.le_iff_toInt_le.mp h5
  have b7 := Int32.le_iff_toInt_le.mp h7
  rw [e5] at b5
  rw [e7] at b7
  simp only [a]
  constructor <;> omega
/-- the copied row, by natural numbers and by ints -/
theorem cp_same {α : Type} (F G : Int32 → α) {sp dp n : Int32} {N t : Nat} (h1 : 0 ≤ sp) (h2 : 0 ≤ dp) (h3 : 0 ≤ n) (hN : dp.toNatClampNeg + n.toNatClampNeg ≤ N) (hs : sp.toNatClampNeg + n.toNatClampNeg < 2147483648) (hN2 : N < 2147483648) (ht : t < N) :
    va_cpy (fun j => F (Int32.ofNat j)) (fun j => G (Int32.ofNat j)) sp.toNatClampNeg dp.toNatClampNeg n.toNatClampNeg t = if dp ≤ Int32.ofNat t ∧ Int32.ofNat t < dp + n then F (sp + (Int32.ofNat t - dp)) else G (Int32.ofNat t) := by
  have e1 := i_of_clamp h1
  have e2 := i_of_clamp h2
  have e3 := i_of_clamp h3
  generalize sp.toNatClampNeg = a at *
  generalize dp.toNatClampNeg = b at *
  generalize n.toNatClampNeg = c at *
  subst e1 e2 e3
  have f1 : (Int32.ofNat b ≤ Int32.ofNat t) ↔ b ≤ t := by
    constructor
    · intro h
      by_cases w : b ≤ t
      · exact w
      · exact absurd h (by
          have := nI_lt (a := t) (b := b) (by omega) (by omega)
          exact Int32.not_le.mpr this)
    · intro h
      exact nI_le h (by omega)
  have f2 : (Int32.ofNat t < Int32.ofNat b + Int32.ofNat c) ↔ t < b + c := by
    have : Int32.ofNat b + Int32.ofNat c = nI (b + c) := nI_add b c
    rw [this]
    constructor
    · intro h
      by_cases w : t < b + c
      · exact w
      · exact absurd h (nI_nlt (a := t) (b := b + c) (by omega) (by omega))
    · intro h
      exact nI_lt h (by omega)
  unfold va_cpy
  by_cases hc : b ≤ t ∧ t < b + c
  · rw [if_pos hc, if_pos ⟨f1.mpr hc.1, f2.mpr hc.2⟩]
    refine congrArg F ?_
    have g1 : Int32.ofNat t - Int32.ofNat b = nI (t - b) := by
      have := nI_add b (t - b)
      have e : nI b + nI (t - b) = nI t := by rw [this]; congr 1; omega
      show nI t - nI b = _
      rw [← e]
      grind
    rw [g1]
    exact (nI_add a (t - b)).symm
  · rw [if_neg hc, if_neg fun z => hc ⟨f1.mp z.1, f2.mp z.2⟩]
section CPW
variable {p : Program} {l : Launch} {e : Env} {R : Room} {s : State} {m : MethodId} {args : Array Value} {below : List Frame} {meth : Method} {c : Code} {H : Heap} {locs : List Loc} {cells slots : Nat} {Q : State → Prop}
variable {cc : ByteArray} {pc : Nat} {ls : Array Slot} {rest : List Value} {a : Nat}
/-- as the kit's row, but every other cell of the heap is told of -/
theorem w_copy {α : Type} (mk : α → Value) (hexec : p.tables.exec = Jvm.exec) (hb : c.code = cc) (hml : c.maxLocals = ls.size) {own : String} {index : Nat} (hown : s.vm.findClass own = some m.cls) (hlink : (Cond.methodLink own index arraycopyName).before args s = true) (hnat : (Cond.native arraycopyName).before args s = true) (hstat : (Cond.static arraycopyName).before args s = true) (hini : (Cond.initialized "java/lang/System").before args s = true)
    {a0 : Nat} {c0 c1 : ClassId} {n0 n1 : Nat} {f g : Nat → α} {ty : FieldType} (hc0 : H[a0]? = some (arrV c0 n0 (fun j => mk (f j)))) (hc1 : H[a]? = some (arrV c1 n1 (fun j => mk (g j)))) (ht0 : ArrOfT s c0 ty) (ht1 : ArrOfT s c1 ty) (hprim : refKind ty = false)
    {sp dp n : Int32} (h1 : ¬ sp < 0) (h2 : ¬ dp < 0) (h3 : ¬ n < 0) (h4 : sp.toNatClampNeg + n.toNatClampNeg ≤ n0) (h5 : dp.toNatClampNeg + n.toNatClampNeg ≤ n1) (hfit : ∀ i, i < n.toNatClampNeg → fits ty (mk (f (sp.toNatClampNeg + i))) = true) (hmk : ∀ x : α, (match mk x with | .ref _ => False | .null => False | _ => True) )
    (hframes : 1 ≤ R.frames) (hlocals : (rest.map fun v => v.category).sum + (nativeFrameWords "java/lang/System" "arraycopy" 5 + 11) ≤ R.locals) (hdg : decode cc pc = .ok (.invokestatic index, 3))
    (kk : ∀ (H1 : Heap) (L : List Loc), H1[a]? = some (arrV c1 n1 (fun j => mk (va_cpy f g sp.toNatClampNeg dp.toNatClampNeg n.toNatClampNeg j))) → H1.size = H.size → (∀ q : Nat, q ≠ a → H1[q]? = H[q]?) → (∀ z ∈ L, z.base = a) → W p l e R s m args below meth c H1 (locs ++ L) cells slots Q (F0 m (pc + 3) ls rest)) : W p l e R s m args below meth c H locs cells slots Q (F0 m pc ls (.int n :: .int dp :: .ref a :: .int sp :: .ref a0 :: rest)) := by
  have nn : ∀ z : Int32, ¬ z < 0 → z.toInt = (z.toNatClampNeg : Int) := by
    intro z hz
    have hz0 : (0 : Int) ≤ z.toInt := by
      have := Int32.not_lt.mp hz
      simpa using Int32.le_iff_toInt_le.mp this
    show z.toInt = ((z.toInt.toNat : Nat) : Int)
    omega
  intro T hT X
  obtain ⟨-, k0, hk0, cm0, hkk0⟩ := ht0 n0 (fun j => mk (f j))
  obtain ⟨-, k1, hk1, cm1, hkk1⟩ := ht1 n1 (fun j => mk (g j))
  obtain ⟨vm', X', step⟩ := X.arraycopy hexec hown hlink hnat hstat hini (src := a0) (dst := a) (cs := arrV c0 n0 (fun j => mk (f j))) (cd := arrV c1 n1 (fun j => mk (g j))) (srcPos := sp) (destPos := dp) (n := n) (by rw [hT]; exact hc0) (by rw [hT]; exact hc1)
    (fun _ h => by cases h) (fun _ h => by cases h) (fun h => by cases h) (fun h => by cases h) hk0 hk1 hkk0 hkk1 (by simp [hprim]) h1 h2 h3
    (by rw [nn sp h1, nn n h3]; show ¬ _ > ((arrV c0 n0 (fun j => mk (f j))).slots.size : Int); rw [arrV_size]; omega)
    (by rw [nn dp h2, nn n h3]; show ¬ _ > ((arrV c1 n1 (fun j => mk (g j))).slots.size : Int); rw [arrV_size]; omega)
    (fun vm₁ _ i hi => by
      have e : (arrV c0 n0 (fun j => mk (f j))).slots.getD (sp.toNatClampNeg + i) .null = mk (f (sp.toNatClampNeg + i)) := by
        rw [Array.getD_eq_getD_getElem?, arrV_read _ _ (by omega)]
        rfl
      refine ⟨?_, ?_⟩
      · rw [e]
        exact hfit i hi
      · rw [e]
        have := hmk (f (sp.toNatClampNeg + i))
        revert this
        cases mk (f (sp.toNatClampNeg + i)) <;> intro w <;> first | exact trivial | exact w.elim)
    (g := F0 m pc ls (.int n :: .int dp :: .ref a :: .int sp :: .ref a0 :: rest)) rfl (by rw [hml]) (rest := rest) rfl (by rw [hb]; exact hdg) hframes (by show 2 * 0 + _ + _ ≤ _; omega)
  have e1 : copied (arrV c0 n0 (fun j => mk (f j))) (arrV c1 n1 (fun j => mk (g j))) sp dp n = arrV c1 n1 (fun j => mk (va_cpy f g sp.toNatClampNeg dp.toNatClampNeg n.toNatClampNeg j)) := va_copied mk c0 c1 f g h4
  rw [e1] at X' step
  have hl : a < H.size := (Array.getElem?_eq_some_iff.mp hc1).1
  have hheap : ((T.setVm vm').setCell a (arrV c1 n1 (fun j => mk (va_cpy f g sp.toNatClampNeg dp.toNatClampNeg n.toNatClampNeg j)))).heap = H.setIfInBounds a (arrV c1 n1 (fun j => mk (va_cpy f g sp.toNatClampNeg dp.toNatClampNeg n.toNatClampNeg j))) := by rw [← hT]; rfl
  obtain ⟨t, a1, b1⟩ := kk _ _ (by simp [Array.getElem?_setIfInBounds, hl]) (by simp) (fun q hq => by simp [Array.getElem?_setIfInBounds, Ne.symm hq]) (fun z hz => by
      obtain ⟨w, -, hw⟩ := List.mem_map.mp hz
      rw [← hw]) _ hheap X'
  exact ⟨t, step t a1, b1⟩
end CPW
/-- a whole row of ints or bytes is written -/
theorem Wd.putAf {P : PP} {q : PL} {s : S1} {H H1 : Heap} {r : Nat} {i : Int32} (f : Int32 → Int32) (h : Wd P q s H) (hp : prs s r i) (hr : rkF r = 1 ∨ rkF r = 2 ∨ rkF r = 3) (hfx : rkF r = 2 → ∀ j, fits .byte (.int (f j)) = true)
    (e : H1[q.1 r i]? = some (arrV (P.2.2.1 r) (lnS s r i) (fun t => .int (f (Int32.ofNat t))))) (z : H1.size = H.size) (oq : ∀ a : Nat, a ≠ q.1 r i → H1[a]? = H[a]?) : Wd P q (sAf s r i f) H1 := by
  obtain ⟨h1, h2, h3, h4, h5⟩ := h
  have hn0 : rkF r ≠ 0 := by omega
  have hcell := (h3 r i hp).1
  unfold cellAt at hcell
  rw [if_neg hn0] at hcell
  refine ⟨z.trans h1, (tot_put hcell e (by rw [arrV_size, arrV_size]) z oq).trans h2, fun r' i' hp' => ?_, fun r1 i1 r2 i2 a b => h4 r1 i1 r2 i2 a b, h5.1, h5.2.1, fun r2 i2 j2 hk => by
    rw [gA_sAf]
    split
    · next e => exact hfx (e.1 ▸ hk) _
    · exact h5.2.2.1 r2 i2 j2 hk, h5.2.2.2⟩
  have hp2 : prs s r' i' := hp'
  obtain ⟨c1, c2, c3⟩ := h3 r' i' hp2
  refine ⟨?_, c2, c3⟩
  by_cases hq : r' = r ∧ i' = i
  · obtain ⟨rfl, rfl⟩ := hq
    unfold cellAt
    rw [if_neg hn0, e, avP_ne (by omega)]
    refine congrArg some (arrV_congr fun t ht => ?_)
    rw [av_i hr, gA_sAf, if_pos ⟨rfl, rfl⟩]
  · have hne : q.1 r' i' ≠ q.1 r i := fun z => hq (h4 _ _ _ _ hp2 hp z)
    unfold cellAt at c1 ⊢
    by_cases h0 : rkF r' = 0
    · rw [if_pos h0] at c1 ⊢
      exact c1.kept (oq _ hne)
    · rw [if_neg h0] at c1 ⊢
      rw [oq _ hne, c1]
      refine congrArg some (arrV_congr fun t ht => ?_)
      unfold avP
      by_cases h6 : rkF r' = 6
      · rw [if_pos h6, if_pos h6]
      rw [if_neg h6, if_neg h6]
      unfold av
      split
      all_goals first | rfl | (rw [gA_sAf, if_neg (fun w => hq ⟨w.1, w.2⟩)])
theorem oCI_in {α : Type} {s : S1} {o : α × S1} {ra rb : Nat} {ia na ib nb sp dp n : Int32} {kt : Unit → M α} (h : oB (oCI ra ia na rb ib nb sp dp n) kt s = some o) : (0 ≤ sp ∧ 0 ≤ dp ∧ 0 ≤ n ∧ sp ≤ na ∧ n ≤ na - sp ∧ dp ≤ nb ∧ n ≤ nb - dp) ∧ kt () (sAf s rb ib (cpI s ra ia rb ib sp dp n)) = some o := by
  unfold oB oCI at h
  by_cases hj : 0 ≤ sp ∧ 0 ≤ dp ∧ 0 ≤ n ∧ sp ≤ na ∧ n ≤ na - sp ∧ dp ≤ nb ∧ n ≤ nb - dp
  · rw [if_pos hj] at h
    exact ⟨hj, h⟩
  · rw [if_neg hj] at h
    cases h
section CPY
variable {X : Cx} {q : PL} {s : S1} {y : MethodName} {cc : ByteArray} {nL : Nat} {ret : Option FieldType} {fr lo : Nat} {own : String} {pc : Nat} {ls : Array Slot} {rest : List Value} {index : Nat} {α : Type} {o : α × S1}
theorem ww_ci (g : Gd X y cc nL ret fr lo own) {ra rb : Nat} {ia na ib nb sp dp n : Int32} (hpa : prs s ra ia) (hpb : prs s rb ib) (hk : rkF ra = rkF rb) (hka : rkF ra = 1 ∨ rkF ra = 2) (hna : na.toNatClampNeg = lnS s ra ia) (hnb : nb.toNatClampNeg = lnS s rb ib)
    (k1 : Cond.methodLink own index arraycopyName ∈ wA) (k2 : Cond.native arraycopyName ∈ wA) (k3 : Cond.static arraycopyName ∈ wA) (k4 : Cond.initialized "java/lang/System" ∈ wA) (hR : 1 ≤ fr ∧ 26 ≤ lo) (hsz : ls.size = nL) (hrest : (rest.map fun v => v.category).sum ≤ 8) (hdg : decode cc pc = .ok (.invokestatic index, 3))
    {kt : Unit → M α} (h : oB (oCI ra ia na rb ib nb sp dp n) kt s = some o) (kk : ∀ s' : S1, s' = sAf s rb ib (cpI s ra ia rb ib sp dp n) → kt () s' = some o → WW X q s' (pc + 3) ls rest) : WW X q s pc ls (.int n :: .int dp :: .ref (q.1 rb ib) :: .int sp :: .ref (q.1 ra ia) :: rest) := by
  intro H locs hW hS
  obtain ⟨⟨hx, hb⟩, hml, hown, hts, hK, ⟨hR1, hR2, -, -⟩, -⟩ := g
  obtain ⟨hj, h⟩ := oCI_in h
  obtain ⟨g4, g5⟩ := cp_num hj
  rw [hna] at g4
  rw [hnb] at g5
  have l1 := (hW.2.2.1 ra ia hpa).2.2
  have l2 := (hW.2.2.1 rb ib hpb).2.2
  have by8 := hW.2.2.2.2.2.2.1
  have hty : ∃ ty : FieldType, ArrOfT (xs X) ((xP X).2.2.1 ra) ty ∧ ArrOfT (xs X) ((xP X).2.2.1 rb) ty ∧ refKind ty = false ∧ ∀ j, fits ty (.int (gA s ra ia j)) = true := by
    rcases hka with e | e
    · exact ⟨.int, (hK.2.1 ra).1 e, (hK.2.1 rb).1 (hk ▸ e), rfl, fun _ => rfl⟩
    · exact ⟨.byte, (hK.2.1 ra).2.1 e, (hK.2.1 rb).2.1 (hk ▸ e), rfl, fun j => by8 ra ia j e⟩
  obtain ⟨ty, t1, t2, t3, t4⟩ := hty
  have ha : rkF ra = 1 ∨ rkF ra = 2 ∨ rkF ra = 3 := by omega
  have hb' : rkF rb = 1 ∨ rkF rb = 2 ∨ rkF rb = 3 := by omega
  have c0 := ar_cell hW hpa (by omega) (by omega)
  have c1 := ar_cell hW hpb (by omega) (by omega)
  have f0 : av q s ra ia = fun j => .int (gA s ra ia (Int32.ofNat j)) := funext (av_i ha)
  have f1 : av q s rb ib = fun j => .int (gA s rb ib (Int32.ofNat j)) := funext (av_i hb')
  rw [f0] at c0
  rw [f1] at c1
  refine w_copy (fun x : Int32 => Value.int x) hx hb (hml.trans hsz.symm) hown (hts _ (List.mem_cons_of_mem _ k1)) (hts _ (List.mem_cons_of_mem _ k2)) (hts _ (List.mem_cons_of_mem _ k3)) (hts _ (List.mem_cons_of_mem _ k4)) c0 c1 t1 t2 t3 (Int32.not_lt.mpr hj.1) (Int32.not_lt.mpr hj.2.1) (Int32.not_lt.mpr hj.2.2.1) g4 g5 (fun i _ => t4 _) (fun _ => trivial) (by rw [hR1]; exact hR.1) ?_ hdg fun H1 L e z oq hL => ?_
  · rw [hR2]
    have : nativeFrameWords "java/lang/System" "arraycopy" 5 = 7 := by decide +kernel
    rw [this]
    omega
  · refine kk _ rfl h H1 _ (hW.putAf (cpI s ra ia rb ib sp dp n) hpb hb' (fun e2 j => ?_) ?_ z oq) ?_
    · unfold cpI
      split
      · exact by8 ra ia _ (hk ▸ e2)
      · exact by8 rb ib _ e2
    · rw [e]
      refine congrArg some (arrV_congr fun t ht => ?_)
      exact congrArg Value.int (cp_same (gA s ra ia) (gA s rb ib) hj.1 hj.2.1 hj.2.2.1 g5 (by omega) l2 ht)
    · refine ⟨by rw [z]; exact hS.1, fun a u1 u2 => ?_, fun a ha2 => ?_⟩
      · rw [oq a (fun w => u2 (by rw [w]; exact (hW.2.2.1 rb ib hpb).2.1))]
        exact hS.2.1 a u1 u2
      · rcases List.mem_append.mp ha2 with w | w
        · exact hS.2.2 a w
        · rw [hL a w]
          exact (hW.2.2.1 rb ib hpb).2.1
end CPY
abbrev y_ARRCOPY : MethodName := arraycopyName
